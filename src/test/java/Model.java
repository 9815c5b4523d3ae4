import java.util.ArrayDeque;
import java.util.ArrayList;
import java.util.Comparator;
import java.util.Deque;
import java.util.LinkedHashMap;
import java.util.List;
import java.util.Map;
import java.util.NoSuchElementException;
import java.util.TreeMap;
import java.util.TreeSet;

/**
 * The document once more, written with the Java library and by trying all that there is, so that it shares
 * no thought with the program that it is compared with.
 */
final class Model {
    static final class Segment {
        int duration;
        int pause;
        List<String> words = new ArrayList<>();
        int identity;

        Segment copy() {
            Segment copy = new Segment();
            copy.duration = duration;
            copy.pause = pause;
            copy.words = new ArrayList<>(words);
            copy.identity = identity;
            return copy;
        }
    }

    static final class State {
        List<Segment> segments = new ArrayList<>();
        List<String> words = new ArrayList<>();
        List<int[]> slots = new ArrayList<>();
        int[] settings = {60, 600, 2, 40, 5, 30};
        // identity, start and duration of each segment; null if none is kept
        List<int[]> kept;

        State copy() {
            State copy = new State();
            for (Segment segment : segments) {
                copy.segments.add(segment.copy());
            }
            copy.words.addAll(words);
            for (int[] slot : slots) {
                copy.slots.add(slot.clone());
            }
            copy.settings = settings.clone();
            copy.kept = kept;
            return copy;
        }
    }

    static final int[][] RANGES = {{1, 9999}, {1, 9999}, {1, 5}, {0, 100}, {0, 99}, {0, 9999}};

    State state = new State();
    final Deque<State> past = new ArrayDeque<>();
    StringBuilder buffer = new StringBuilder();
    int errorPosition = -1;
    String written = "";

    private boolean fresh;
    private List<Integer> bestCuts;
    private List<Integer> bestPlaces;
    private int bestCost;

    // ---- changes

    private void change() {
        past.addLast(state.copy());
        if (past.size() > 8) {
            past.removeFirst();
        }
        fresh = false;
    }

    int undo() {
        if (past.isEmpty()) {
            throw new IllegalStateException();
        }
        state = past.removeLast();
        fresh = false;
        return past.size();
    }

    int append(int... numbers) {
        if (buffer.length() + 20 > 900) {
            throw new IllegalStateException();
        }
        for (int number : numbers) {
            for (int shift : new int[] {24, 16, 8, 0}) {
                buffer.append((char) (number >> shift & 255));
            }
        }
        return buffer.length();
    }

    int load(int length) {
        argument(length >= 0 && length <= buffer.length());
        String text = buffer.substring(0, length);
        buffer = new StringBuilder();
        ModelText reading = new ModelText(text);
        errorPosition = reading.errorPosition;
        if (reading.errorCode != 0) {
            return reading.errorCode;
        }
        change();
        state = reading.state;
        return state.segments.size();
    }

    int set(int setting, int value) {
        index(setting, 6);
        argument(value >= RANGES[setting][0] && value <= RANGES[setting][1]);
        int old = state.settings[setting];
        change();
        state.settings[setting] = value;
        return old;
    }

    int setting(int setting) {
        index(setting, 6);
        return state.settings[setting];
    }

    int setDuration(int segment, int value) {
        index(segment, size());
        argument(value >= 1 && value <= 999);
        int old = state.segments.get(segment).duration;
        change();
        state.segments.get(segment).duration = value;
        return old;
    }

    int setPause(int segment, int value) {
        index(segment, size());
        argument(value >= 0 && value <= 99);
        int old = state.segments.get(segment).pause;
        change();
        state.segments.get(segment).pause = value;
        return old;
    }

    int addWord(int segment, int word) {
        index(segment, size());
        index(word, state.words.size());
        if (state.segments.get(segment).words.size() == 8) {
            throw new IllegalStateException();
        }
        change();
        state.segments.get(segment).words.add(state.words.get(word));
        return state.segments.get(segment).words.size();
    }

    int removeSegment(int segment) {
        index(segment, size());
        change();
        state.segments.remove(segment);
        return size();
    }

    int moveSegment(int segment, int to) {
        index(segment, size());
        index(to, size());
        change();
        state.segments.add(to, state.segments.remove(segment));
        return start(to);
    }

    int addSlot(int wished, int length, int reach) {
        argument(wished >= 0 && wished <= 9999 && length >= 1 && length <= 300 && reach >= 0 && reach <= 999);
        if (state.slots.size() == 5) {
            throw new IllegalStateException();
        }
        change();
        return put(state, new int[] {wished, length, reach});
    }

    /** A stable sort keeps slots of the same time in the order in which they came. */
    static int put(State state, int[] slot) {
        state.slots.add(slot);
        state.slots.sort(Comparator.comparingInt((int[] s) -> s[0]));
        return state.slots.indexOf(slot);
    }

    int removeSlot(int slot) {
        index(slot, state.slots.size());
        change();
        state.slots.remove(slot);
        return state.slots.size();
    }

    int moveSlot(int slot, int wished) {
        index(slot, state.slots.size());
        argument(wished >= 0 && wished <= 9999);
        change();
        int[] moved = state.slots.remove(slot).clone();
        moved[0] = wished;
        return put(state, moved);
    }

    int keep() {
        change();
        List<int[]> kept = new ArrayList<>();
        for (int i = 0; i < size(); i++) {
            Segment segment = state.segments.get(i);
            kept.add(new int[] {segment.identity, start(i), segment.duration});
        }
        state.kept = kept;
        return start(size());
    }

    // ---- questions about the transcript

    int size() {
        return state.segments.size();
    }

    int boundaries() {
        return Math.max(0, size() - 1);
    }

    int start(int segment) {
        return state.segments.subList(0, segment).stream().mapToInt(s -> s.duration).sum();
    }

    int count(int what) {
        argument(what >= 0 && what <= 5);
        int longPauses = 0;
        for (int k = 0; k < boundaries(); k++) {
            longPauses += state.segments.get(k).pause >= state.settings[4] ? 1 : 0;
        }
        int all = state.segments.stream().mapToInt(s -> s.words.size()).sum();
        return new int[] {size(), state.words.size(), state.slots.size(), start(size()), all, longPauses}[what];
    }

    int segment(int segment, int what) {
        index(segment, size());
        argument(what >= 0 && what <= 4);
        Segment s = state.segments.get(segment);
        return new int[] {s.duration, s.pause, s.words.size(), start(segment), realTime(segment)}[what];
    }

    int wordOf(int segment, int k) {
        index(segment, size());
        index(k, state.segments.get(segment).words.size());
        return state.words.indexOf(state.segments.get(segment).words.get(k));
    }

    int find(long name) {
        for (int word = 0; word < state.words.size(); word++) {
            if (Check.code(state.words.get(word)) == name) {
                return word;
            }
        }
        return -1;
    }

    int uses(int word, int from, int to) {
        index(word, state.words.size());
        index(from, size());
        index(to, size());
        argument(to >= from);
        return bag(from, to).getOrDefault(state.words.get(word), 0);
    }

    int segmentAt(int time) {
        for (int i = 0; i < size(); i++) {
            if (start(i) <= time && time < start(i + 1)) {
                return i;
            }
        }
        return -1;
    }

    int carried(int time) {
        if (state.kept == null) {
            throw new IllegalStateException();
        }
        int total = state.kept.stream().mapToInt(k -> k[2]).sum();
        argument(time >= 0 && time < total);
        int spoken = 0;
        while (time >= state.kept.get(spoken)[1] + state.kept.get(spoken)[2]) {
            spoken++;
        }
        int now = present(state.kept.get(spoken)[0]);
        if (now >= 0) {
            return start(now) + Math.min(time - state.kept.get(spoken)[1], state.segments.get(now).duration);
        }
        for (int[] behind : state.kept.subList(spoken + 1, state.kept.size())) {
            if (present(behind[0]) >= 0) {
                return start(present(behind[0]));
            }
        }
        return start(size());
    }

    private int present(int identity) {
        for (int i = 0; i < size(); i++) {
            if (state.segments.get(i).identity == identity) {
                return i;
            }
        }
        return -1;
    }

    // ---- changes of topic and chapters

    private Map<String, Integer> bag(int from, int to) {
        Map<String, Integer> bag = new TreeMap<>();
        for (Segment segment : state.segments.subList(from, to + 1)) {
            for (String word : segment.words) {
                bag.merge(word, 1, Integer::sum);
            }
        }
        return bag;
    }

    private static int alike(Map<String, Integer> one, Map<String, Integer> other) {
        TreeSet<String> words = new TreeSet<>(one.keySet());
        words.addAll(other.keySet());
        int lesser = 0;
        int greater = 0;
        for (String word : words) {
            lesser += Math.min(one.getOrDefault(word, 0), other.getOrDefault(word, 0));
            greater += Math.max(one.getOrDefault(word, 0), other.getOrDefault(word, 0));
        }
        return 100 * lesser / greater;
    }

    int change(int boundary) {
        index(boundary, boundaries());
        int window = state.settings[2];
        int from = Math.max(0, boundary - window + 1);
        int to = Math.min(size() - 1, boundary + window);
        return 100 - alike(bag(from, boundary), bag(boundary + 1, to));
    }

    private List<int[]> runs(List<Integer> cuts) {
        List<int[]> runs = new ArrayList<>();
        int first = 0;
        for (int cut : cuts) {
            runs.add(new int[] {first, cut});
            first = cut + 1;
        }
        runs.add(new int[] {first, size() - 1});
        return runs;
    }

    private boolean allowed(List<Integer> cuts) {
        for (int[] run : runs(cuts)) {
            int duration = start(run[1] + 1) - start(run[0]);
            if (duration < state.settings[0] || duration > state.settings[1]) {
                return false;
            }
        }
        return size() > 0;
    }

    private List<Integer> cutsOf(int mask) {
        List<Integer> cuts = new ArrayList<>();
        for (int k = 0; k < 31; k++) {
            if ((mask >> k & 1) == 1) {
                cuts.add(k);
            }
        }
        return cuts;
    }

    private int worth(List<Integer> cuts, int price) {
        int worth = 0;
        for (int cut : cuts) {
            worth += change(cut) - price;
        }
        return worth;
    }

    /** All allowed divisions of a show of at most some twelve segments. */
    private List<List<Integer>> allAllowed() {
        List<List<Integer>> all = new ArrayList<>();
        if (size() > 0) {
            for (int mask = 0; mask < 1 << size() - 1; mask++) {
                List<Integer> cuts = cutsOf(mask);
                if (allowed(cuts)) {
                    all.add(cuts);
                }
            }
        }
        return all;
    }

    private List<Integer> best(List<List<Integer>> divisions, int price) {
        List<Integer> best = null;
        for (List<Integer> cuts : divisions) {
            if (best == null || better(cuts, worth(cuts, price), best, worth(best, price))) {
                best = cuts;
            }
        }
        return best;
    }

    private static boolean better(List<Integer> cuts, int worth, List<Integer> than, int thanWorth) {
        if (worth != thanWorth) {
            return worth > thanWorth;
        }
        if (cuts.size() != than.size()) {
            return cuts.size() < than.size();
        }
        for (int i = 0; i < cuts.size(); i++) {
            if (!cuts.get(i).equals(than.get(i))) {
                return cuts.get(i) < than.get(i);
            }
        }
        return false;
    }

    private void refresh() {
        if (fresh) {
            return;
        }
        bestCuts = best(allAllowed(), state.settings[3]);
        bestCost = -1;
        bestPlaces = null;
        tryPlaces(new ArrayList<>(), 0);
        fresh = true;
    }

    private void tryPlaces(List<Integer> places, int cost) {
        int slot = places.size();
        if (slot == state.slots.size()) {
            if (bestPlaces == null || cost < bestCost) {
                bestPlaces = new ArrayList<>(places);
                bestCost = cost;
            }
            return;
        }
        int from = slot == 0 ? 0 : places.get(slot - 1) + 1;
        for (int k = from; k < boundaries(); k++) {
            boolean apart = slot == 0 || start(k + 1) - start(places.get(slot - 1) + 1) >= state.settings[5];
            if (fits(slot, k) && apart) {
                places.add(k);
                tryPlaces(places, cost + Math.abs(start(k + 1) - state.slots.get(slot)[0])
                        + (bestCuts != null && bestCuts.contains(k) ? 0 : 20));
                places.remove(slot);
            }
        }
    }

    private boolean fits(int slot, int k) {
        return state.segments.get(k).pause >= state.settings[4]
                && Math.abs(start(k + 1) - state.slots.get(slot)[0]) <= state.slots.get(slot)[2];
    }

    private List<Integer> division() {
        refresh();
        if (bestCuts == null) {
            throw new NoSuchElementException();
        }
        return bestCuts;
    }

    private int realTime(int segment) {
        refresh();
        int time = start(segment);
        if (bestPlaces != null) {
            for (int slot = 0; slot < bestPlaces.size(); slot++) {
                time += bestPlaces.get(slot) < segment ? state.slots.get(slot)[1] : 0;
            }
        }
        return time;
    }

    int chapters() {
        refresh();
        return bestCuts == null ? -1 : bestCuts.size() + 1;
    }

    int worth() {
        return worth(division(), state.settings[3]);
    }

    private int[] run(int chapter) {
        List<int[]> runs = runs(division());
        index(chapter, runs.size());
        return runs.get(chapter);
    }

    private Map<String, Integer> chapterBag(int chapter) {
        int[] run = run(chapter);
        return bag(run[0], run[1]);
    }

    int chapter(int chapter, int what) {
        int[] run = run(chapter);
        argument(what >= 0 && what <= 4);
        return new int[] {run[0], run[1], start(run[1] + 1) - start(run[0]), chapterBag(chapter).size(),
            realTime(run[0])}[what];
    }

    int chapterOf(int segment) {
        index(segment, size());
        refresh();
        if (bestCuts == null) {
            return -1;
        }
        return (int) bestCuts.stream().filter(cut -> cut < segment).count();
    }

    private void mask(int cuts) {
        argument(cuts >= 0);
        argument(cutsOf(cuts).stream().allMatch(cut -> cut < boundaries()));
    }

    int worthOf(int cuts) {
        mask(cuts);
        return worth(cutsOf(cuts), state.settings[3]);
    }

    int isAllowed(int cuts) {
        mask(cuts);
        return allowed(cutsOf(cuts)) ? 1 : 0;
    }

    long divisions() {
        return allAllowed().size();
    }

    int worthWith(int boundary, boolean cut) {
        index(boundary, boundaries());
        List<List<Integer>> fitting = new ArrayList<>(allAllowed());
        fitting.removeIf(cuts -> cuts.contains(boundary) != cut);
        List<Integer> best = best(fitting, state.settings[3]);
        if (best == null) {
            throw new NoSuchElementException();
        }
        return worth(best, state.settings[3]);
    }

    int priceFor(int many) {
        argument(many >= 1 && many <= 32);
        List<List<Integer>> all = allAllowed();
        for (int price = 100; price >= 0; price--) {
            List<Integer> best = best(all, price);
            if (best != null && best.size() + 1 >= many) {
                return price;
            }
        }
        throw new NoSuchElementException();
    }

    // ---- titles

    int chaptersWith(int word) {
        division();
        index(word, state.words.size());
        return spread(state.words.get(word));
    }

    private int spread(String word) {
        int many = 0;
        for (int chapter = 0; chapter < chapters(); chapter++) {
            many += chapterBag(chapter).containsKey(word) ? 1 : 0;
        }
        return many;
    }

    private int mark(int chapter, String word) {
        int times = chapterBag(chapter).getOrDefault(word, 0);
        return times == 0 ? 0 : 1000 * times / spread(word);
    }

    int mark(int chapter, int word) {
        run(chapter);
        index(word, state.words.size());
        return mark(chapter, state.words.get(word));
    }

    int typical(int chapter) {
        int[] run = run(chapter);
        Map<Integer, Integer> sums = new LinkedHashMap<>();
        for (int i = run[0]; i <= run[1]; i++) {
            sums.put(i, state.segments.get(i).words.stream().mapToInt(w -> mark(chapter, w)).sum());
        }
        int most = sums.values().stream().mapToInt(v -> v).max().getAsInt();
        return sums.entrySet().stream().filter(e -> e.getValue() == most).findFirst().get().getKey();
    }

    int likeness(int one, int other) {
        run(one);
        run(other);
        return alike(chapterBag(one), chapterBag(other));
    }

    private List<String> title(int chapter) {
        List<String> words = new ArrayList<>(chapterBag(chapter).keySet());
        words.sort(Comparator.comparingInt((String w) -> -mark(chapter, w))
                .thenComparingInt(w -> state.words.indexOf(w)));
        return words.subList(0, Math.min(3, words.size()));
    }

    int title(int chapter, int k) {
        run(chapter);
        index(k, 3);
        List<String> title = title(chapter);
        return k < title.size() ? state.words.indexOf(title.get(k)) : -1;
    }

    // ---- slots and text

    int slot(int slot, int what) {
        index(slot, state.slots.size());
        argument(what >= 0 && what <= 2);
        return state.slots.get(slot)[what];
    }

    int placeOf(int slot) {
        index(slot, state.slots.size());
        refresh();
        return bestPlaces == null ? -1 : bestPlaces.get(slot);
    }

    int placementCost() {
        refresh();
        return bestPlaces == null ? -1 : bestCost;
    }

    int choices(int slot) {
        index(slot, state.slots.size());
        int many = 0;
        for (int k = 0; k < boundaries(); k++) {
            many += fits(slot, k) ? 1 : 0;
        }
        return many;
    }

    int writeChapters() {
        division();
        StringBuilder text = new StringBuilder();
        for (int chapter = 0; chapter < chapters(); chapter++) {
            text.append(realTime(run(chapter)[0])).append(' ');
            text.append(String.join("-", title(chapter))).append(';');
        }
        written = text.toString();
        return written.length();
    }

    int writtenByte(int index) {
        index(index, written.length());
        return written.charAt(index);
    }

    private static void index(int index, int size) {
        if (index < 0 || index >= size) {
            throw new IndexOutOfBoundsException();
        }
    }

    private static void argument(boolean right) {
        if (!right) {
            throw new IllegalArgumentException();
        }
    }
}
