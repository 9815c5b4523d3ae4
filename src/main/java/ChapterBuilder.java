import java.util.Arrays;
import java.util.NoSuchElementException;

/** A builder of podcast chapters: see ../shared/DOC.md for what each call promises. */
public final class ChapterBuilder {
    public static final int NONE = -1;
    public static final int SYNTAX_ERROR = -2;
    public static final int VALUE_ERROR = -3;
    public static final int TOO_MANY = -4;

    private static final int MAX_SEGMENTS = 32;
    private static final int MAX_BOUNDARIES = 31;
    private static final int MAX_SEGMENT_WORDS = 8;
    private static final int MAX_WORDS = 24;
    private static final int MAX_LETTERS = 8;
    private static final int LETTER_BITS = 5;
    private static final int MAX_SLOTS = 5;
    private static final int MAX_TEXT = 900;
    private static final int APPENDED = 20;
    private static final int MAX_CHANGES = 8;
    private static final int TITLE_WORDS = 3;

    private static final int MAX_DURATION = 999;
    private static final int MAX_PAUSE = 99;
    private static final int MAX_WISHED = 9999;
    private static final int MAX_LENGTH = 300;
    private static final int MAX_REACH = 999;
    private static final int MAX_PRICE = 100;
    private static final int NO_CUT_COST = 20;

    // 32 chapters, each with a time of 5 digits, a space, 3 words of 8 letters, 2 hyphens and a semicolon
    private static final int MAX_WRITTEN = MAX_SEGMENTS * 33;

    private static final int LEAST = 0;
    private static final int MOST = 1;
    private static final int WINDOW = 2;
    private static final int PRICE = 3;
    private static final int PAUSE = 4;
    private static final int APART = 5;
    private static final int SETTINGS = 6;
    private static final int[] LOWEST_SETTINGS = {1, 1, 1, 0, 0, 0};
    private static final int[] HIGHEST_SETTINGS = {9999, 9999, 5, 100, 99, 9999};
    private static final int[] FIRST_SETTINGS = {60, 600, 2, 40, 5, 30};

    private final Show show = new Show();
    private final History history = new History();
    private final Reader reader = new Reader();
    private final Division division = new Division();
    private final Placement placement = new Placement();
    private final Titles titles = new Titles();
    private final Page page = new Page();
    // whether division, placement and titles belong to an earlier state of the show
    private boolean stale = true;

    public ChapterBuilder() {
    }

    // ---- setup

    public int append(int a, int b, int c, int d, int e) throws IllegalStateException {
        if (!reader.hasRoom()) {
            throw new IllegalStateException("the text buffer is full");
        }
        reader.takeBytes(a);
        reader.takeBytes(b);
        reader.takeBytes(c);
        reader.takeBytes(d);
        reader.takeBytes(e);
        return reader.bufferLength;
    }

    public int load(int length) throws IllegalArgumentException {
        if (length < 0 || length > reader.bufferLength) {
            throw new IllegalArgumentException("the buffer has no such length");
        }
        reader.readShow(length);
        if (reader.errorCode != 0) {
            return reader.errorCode;
        }
        beginChange();
        show.copyFrom(reader.draft);
        return show.transcript.segmentCount;
    }

    public int errorPosition() {
        return reader.errorAt;
    }

    public int count(int what) throws IllegalArgumentException {
        Transcript transcript = show.transcript;
        switch (what) {
            case 0:
                return transcript.segmentCount;
            case 1:
                return transcript.wordCount;
            case 2:
                return show.slots.slotCount;
            case 3:
                return transcript.startOf(transcript.segmentCount);
            case 4:
                return transcript.allWords();
            case 5:
                return transcript.longPauses(show.settings[PAUSE]);
            default:
                throw new IllegalArgumentException("there is no such number of the show");
        }
    }

    public int setting(int setting) throws IndexOutOfBoundsException {
        requireSetting(setting);
        return show.settings[setting];
    }

    public int set(int setting, int value) throws IndexOutOfBoundsException, IllegalArgumentException {
        requireSetting(setting);
        requireRange(value, LOWEST_SETTINGS[setting], HIGHEST_SETTINGS[setting]);
        int previous = show.settings[setting];
        beginChange();
        show.settings[setting] = value;
        return previous;
    }

    // ---- segments and words

    public int segment(int segment, int what) throws IndexOutOfBoundsException, IllegalArgumentException {
        requireSegment(segment);
        switch (what) {
            case 0:
                return show.transcript.durationOf(segment);
            case 1:
                return show.transcript.pauseOf(segment);
            case 2:
                return show.transcript.sizeOf(segment);
            case 3:
                return show.transcript.startOf(segment);
            case 4:
                refresh();
                return placement.realTime(show, segment);
            default:
                throw new IllegalArgumentException("there is no such number of a segment");
        }
    }

    public int wordOf(int segment, int k) throws IndexOutOfBoundsException {
        requireSegment(segment);
        if (k < 0 || k >= show.transcript.sizeOf(segment)) {
            throw new IndexOutOfBoundsException("the segment has no such word");
        }
        return show.transcript.wordAt(segment, k);
    }

    public int find(long name) {
        return show.transcript.numberOf(name);
    }

    public int uses(int word, int from, int to) throws IndexOutOfBoundsException, IllegalArgumentException {
        requireWord(word);
        requireSegment(from);
        requireSegment(to);
        if (to < from) {
            throw new IllegalArgumentException("the last segment is below the first one");
        }
        return show.transcript.countIn(word, from, to);
    }

    public int setDuration(int segment, int duration) throws IndexOutOfBoundsException, IllegalArgumentException {
        requireSegment(segment);
        requireRange(duration, 1, MAX_DURATION);
        int previous = show.transcript.durationOf(segment);
        beginChange();
        show.transcript.changeDuration(segment, duration);
        return previous;
    }

    public int setPause(int segment, int pause) throws IndexOutOfBoundsException, IllegalArgumentException {
        requireSegment(segment);
        requireRange(pause, 0, MAX_PAUSE);
        int previous = show.transcript.pauseOf(segment);
        beginChange();
        show.transcript.changePause(segment, pause);
        return previous;
    }

    public int addWord(int segment, int word) throws IndexOutOfBoundsException, IllegalStateException {
        requireSegment(segment);
        requireWord(word);
        if (show.transcript.sizeOf(segment) >= MAX_SEGMENT_WORDS) {
            throw new IllegalStateException("the segment has 8 words");
        }
        beginChange();
        show.transcript.putWord(segment, word);
        return show.transcript.sizeOf(segment);
    }

    public int removeSegment(int segment) throws IndexOutOfBoundsException {
        requireSegment(segment);
        beginChange();
        show.transcript.dropSegment(segment);
        return show.transcript.segmentCount;
    }

    public int moveSegment(int segment, int to) throws IndexOutOfBoundsException {
        requireSegment(segment);
        requireSegment(to);
        beginChange();
        show.transcript.shiftSegment(segment, to);
        return show.transcript.startOf(to);
    }

    public int segmentAt(int time) {
        return show.transcript.segmentSpokenAt(time);
    }

    // ---- changes of topic, chapters

    public int change(int boundary) throws IndexOutOfBoundsException {
        requireBoundary(boundary);
        refresh();
        return division.changes[boundary];
    }

    public int chapters() {
        refresh();
        return division.chapterCount > 0 ? division.chapterCount : NONE;
    }

    public int worth() throws NoSuchElementException {
        requireDivision();
        return division.bestWorth;
    }

    public int chapter(int chapter, int what)
            throws NoSuchElementException, IndexOutOfBoundsException, IllegalArgumentException {
        requireDivision();
        requireChapter(chapter);
        int first = division.firsts[chapter];
        int last = division.lastOf(chapter);
        switch (what) {
            case 0:
                return first;
            case 1:
                return last;
            case 2:
                return division.durationFrom(first, last);
            case 3:
                return titles.differentWords(chapter);
            case 4:
                return placement.realTime(show, first);
            default:
                throw new IllegalArgumentException("there is no such number of a chapter");
        }
    }

    public int chapterOf(int segment) throws IndexOutOfBoundsException {
        requireSegment(segment);
        refresh();
        return division.chapterCount > 0 ? division.chapterAt[segment] : NONE;
    }

    public int worthOf(int cuts) throws IllegalArgumentException {
        requireCuts(cuts);
        refresh();
        return division.worthOfCuts(cuts, show.settings[PRICE]);
    }

    public boolean isAllowed(int cuts) throws IllegalArgumentException {
        requireCuts(cuts);
        refresh();
        return division.allows(cuts);
    }

    public long divisions() {
        refresh();
        return division.countAllowed();
    }

    public int worthWith(int boundary, boolean cut) throws IndexOutOfBoundsException, NoSuchElementException {
        requireBoundary(boundary);
        refresh();
        int wanted = cut ? boundary : NONE;
        int barred = cut ? NONE : boundary;
        if (!division.solve(show.settings[PRICE], wanted, barred)) {
            throw new NoSuchElementException("there is no such division");
        }
        return division.worths[0];
    }

    public int priceFor(int many) throws IllegalArgumentException, NoSuchElementException {
        requireRange(many, 1, MAX_SEGMENTS);
        refresh();
        int price = division.greatestPrice(many);
        if (price == NONE) {
            throw new NoSuchElementException("no price gives so many chapters");
        }
        return price;
    }

    // ---- titles

    public int chaptersWith(int word) throws NoSuchElementException, IndexOutOfBoundsException {
        requireDivision();
        requireWord(word);
        return titles.spread[word];
    }

    public int typical(int chapter) throws NoSuchElementException, IndexOutOfBoundsException {
        requireDivision();
        requireChapter(chapter);
        return titles.mostTypical(show.transcript, chapter, division.firsts[chapter], division.lastOf(chapter));
    }

    public int likeness(int one, int other) throws NoSuchElementException, IndexOutOfBoundsException {
        requireDivision();
        requireChapter(one);
        requireChapter(other);
        return titles.chapterLikeness(one, other);
    }

    public int mark(int chapter, int word) throws NoSuchElementException, IndexOutOfBoundsException {
        requireDivision();
        requireChapter(chapter);
        requireWord(word);
        return titles.markOf(chapter, word);
    }

    public int title(int chapter, int k) throws NoSuchElementException, IndexOutOfBoundsException {
        requireDivision();
        requireChapter(chapter);
        if (k < 0 || k >= TITLE_WORDS) {
            throw new IndexOutOfBoundsException("a title has no such word");
        }
        return titles.titleWord(chapter, k);
    }

    // ---- slots

    public int addSlot(int wished, int length, int reach) throws IllegalArgumentException, IllegalStateException {
        requireRange(wished, 0, MAX_WISHED);
        requireRange(length, 1, MAX_LENGTH);
        requireRange(reach, 0, MAX_REACH);
        if (show.slots.slotCount >= MAX_SLOTS) {
            throw new IllegalStateException("there are 5 slots");
        }
        beginChange();
        return show.slots.insert(wished, length, reach);
    }

    public int removeSlot(int slot) throws IndexOutOfBoundsException {
        requireSlot(slot);
        beginChange();
        show.slots.drop(slot);
        return show.slots.slotCount;
    }

    public int moveSlot(int slot, int wished) throws IndexOutOfBoundsException, IllegalArgumentException {
        requireSlot(slot);
        requireRange(wished, 0, MAX_WISHED);
        int length = show.slots.lengths[slot];
        int reach = show.slots.reaches[slot];
        beginChange();
        show.slots.drop(slot);
        return show.slots.insert(wished, length, reach);
    }

    public int slot(int slot, int what) throws IndexOutOfBoundsException, IllegalArgumentException {
        requireSlot(slot);
        switch (what) {
            case 0:
                return show.slots.wishes[slot];
            case 1:
                return show.slots.lengths[slot];
            case 2:
                return show.slots.reaches[slot];
            default:
                throw new IllegalArgumentException("there is no such number of a slot");
        }
    }

    public int placeOf(int slot) throws IndexOutOfBoundsException {
        requireSlot(slot);
        refresh();
        return placement.bestCost == NONE ? NONE : placement.places[slot];
    }

    public int placementCost() {
        refresh();
        return placement.bestCost;
    }

    public int choices(int slot) throws IndexOutOfBoundsException {
        requireSlot(slot);
        refresh();
        return placement.countChoices(show, slot);
    }

    // ---- times after edits

    public int keep() {
        beginChange();
        show.kept.takeVersion(show.transcript);
        return show.kept.total;
    }

    public int carried(int time) throws IllegalStateException, IllegalArgumentException {
        if (!show.kept.exists) {
            throw new IllegalStateException("no version is kept");
        }
        requireRange(time, 0, show.kept.total - 1);
        return show.kept.carry(time, show.transcript);
    }

    public int writeChapters() throws NoSuchElementException {
        requireDivision();
        page.clear();
        for (int chapter = 0; chapter < division.chapterCount; chapter++) {
            page.putNumber(placement.realTime(show, division.firsts[chapter]));
            page.put(' ');
            writeTitle(chapter);
            page.put(';');
        }
        return page.length;
    }

    public int writtenByte(int index) throws IndexOutOfBoundsException {
        if (index < 0 || index >= page.length) {
            throw new IndexOutOfBoundsException("the written text has no such byte");
        }
        return page.bytes[index];
    }

    public int undo() throws IllegalStateException {
        if (history.size == 0) {
            throw new IllegalStateException("there is no change to undo");
        }
        history.bringBack(show);
        stale = true;
        return history.size;
    }

    // ---- help for the calls

    private void beginChange() {
        history.remember(show);
        stale = true;
    }

    private void refresh() {
        if (!stale) {
            return;
        }
        division.update(show);
        placement.update(show, division);
        titles.update(show.transcript, division);
        stale = false;
    }

    private void writeTitle(int chapter) {
        for (int k = 0; k < TITLE_WORDS; k++) {
            int word = titles.titleWord(chapter, k);
            if (word == NONE) {
                return;
            }
            if (k > 0) {
                page.put('-');
            }
            page.putName(show.transcript.names[word]);
        }
    }

    private void requireSetting(int setting) {
        if (setting < 0 || setting >= SETTINGS) {
            throw new IndexOutOfBoundsException("there is no such setting");
        }
    }

    private void requireSegment(int segment) {
        if (segment < 0 || segment >= show.transcript.segmentCount) {
            throw new IndexOutOfBoundsException("there is no such segment");
        }
    }

    private void requireBoundary(int boundary) {
        if (boundary < 0 || boundary >= show.transcript.boundaryCount()) {
            throw new IndexOutOfBoundsException("there is no such boundary");
        }
    }

    private void requireWord(int word) {
        if (word < 0 || word >= show.transcript.wordCount) {
            throw new IndexOutOfBoundsException("there is no such word");
        }
    }

    private void requireSlot(int slot) {
        if (slot < 0 || slot >= show.slots.slotCount) {
            throw new IndexOutOfBoundsException("there is no such slot");
        }
    }

    private void requireDivision() {
        refresh();
        if (division.chapterCount == 0) {
            throw new NoSuchElementException("there is no best division");
        }
    }

    private void requireChapter(int chapter) {
        if (chapter < 0 || chapter >= division.chapterCount) {
            throw new IndexOutOfBoundsException("there is no such chapter");
        }
    }

    private void requireRange(int value, int lowest, int highest) {
        if (value < lowest || value > highest) {
            throw new IllegalArgumentException("a number is out of its range");
        }
    }

    private void requireCuts(int cuts) {
        if (cuts < 0 || cuts >>> show.transcript.boundaryCount() != 0) {
            throw new IllegalArgumentException("a cut is at no boundary");
        }
    }

    /** The likeness of two rows of word counts, each of which begins at an offset. */
    private static int percentAlike(int[] one, int oneOffset, int[] other, int otherOffset) {
        int lesser = 0;
        int greater = 0;
        for (int word = 0; word < MAX_WORDS; word++) {
            int a = one[oneOffset + word];
            int b = other[otherOffset + word];
            lesser += Math.min(a, b);
            greater += Math.max(a, b);
        }
        return greater == 0 ? 0 : 100 * lesser / greater;
    }

    /** The segments in their order, and the words of the show. */
    private static final class Transcript {
        int segmentCount;
        int wordCount;
        // A segment is a row that stays where it is; only its place in this order changes. So a kept
        // version can name its segments by their rows, whatever was moved or removed since.
        final int[] order = new int[MAX_SEGMENTS];
        final int[] durations = new int[MAX_SEGMENTS];
        final int[] pauses = new int[MAX_SEGMENTS];
        final int[] sizes = new int[MAX_SEGMENTS];
        final int[] words = new int[MAX_SEGMENTS * MAX_SEGMENT_WORDS];
        final long[] names = new long[MAX_WORDS];

        void clear() {
            segmentCount = 0;
            wordCount = 0;
        }

        void copyFrom(Transcript other) {
            segmentCount = other.segmentCount;
            wordCount = other.wordCount;
            System.arraycopy(other.order, 0, order, 0, MAX_SEGMENTS);
            System.arraycopy(other.durations, 0, durations, 0, MAX_SEGMENTS);
            System.arraycopy(other.pauses, 0, pauses, 0, MAX_SEGMENTS);
            System.arraycopy(other.sizes, 0, sizes, 0, MAX_SEGMENTS);
            System.arraycopy(other.words, 0, words, 0, MAX_SEGMENTS * MAX_SEGMENT_WORDS);
            System.arraycopy(other.names, 0, names, 0, MAX_WORDS);
        }

        /** Adds a segment without words to a transcript that was cleared, and has had no removal since. */
        boolean addSegment(int duration, int pause) {
            if (segmentCount >= MAX_SEGMENTS) {
                return false;
            }
            order[segmentCount] = segmentCount;
            durations[segmentCount] = duration;
            pauses[segmentCount] = pause;
            sizes[segmentCount] = 0;
            segmentCount++;
            return true;
        }

        int boundaryCount() {
            return segmentCount > 0 ? segmentCount - 1 : 0;
        }

        int durationOf(int segment) {
            return durations[order[segment]];
        }

        int pauseOf(int segment) {
            return pauses[order[segment]];
        }

        int sizeOf(int segment) {
            return sizes[order[segment]];
        }

        int wordAt(int segment, int k) {
            return words[order[segment] * MAX_SEGMENT_WORDS + k];
        }

        void changeDuration(int segment, int duration) {
            durations[order[segment]] = duration;
        }

        void changePause(int segment, int pause) {
            pauses[order[segment]] = pause;
        }

        boolean putWord(int segment, int word) {
            int row = order[segment];
            if (sizes[row] >= MAX_SEGMENT_WORDS) {
                return false;
            }
            words[row * MAX_SEGMENT_WORDS + sizes[row]] = word;
            sizes[row]++;
            return true;
        }

        void dropSegment(int segment) {
            for (int place = segment; place < segmentCount - 1; place++) {
                order[place] = order[place + 1];
            }
            segmentCount--;
        }

        void shiftSegment(int segment, int to) {
            int row = order[segment];
            for (int place = segment; place < to; place++) {
                order[place] = order[place + 1];
            }
            for (int place = segment; place > to; place--) {
                order[place] = order[place - 1];
            }
            order[to] = row;
        }

        /** The speaking time of a segment; with the number of segments, that of the show. */
        int startOf(int segment) {
            int time = 0;
            for (int ahead = 0; ahead < segment; ahead++) {
                time += durationOf(ahead);
            }
            return time;
        }

        int segmentSpokenAt(int time) {
            if (time < 0) {
                return NONE;
            }
            int end = 0;
            for (int segment = 0; segment < segmentCount; segment++) {
                end += durationOf(segment);
                if (time < end) {
                    return segment;
                }
            }
            return NONE;
        }

        int segmentOfRow(int row) {
            for (int segment = 0; segment < segmentCount; segment++) {
                if (order[segment] == row) {
                    return segment;
                }
            }
            return NONE;
        }

        int allWords() {
            int all = 0;
            for (int segment = 0; segment < segmentCount; segment++) {
                all += sizeOf(segment);
            }
            return all;
        }

        int longPauses(int least) {
            int many = 0;
            for (int boundary = 0; boundary < boundaryCount(); boundary++) {
                if (pauseOf(boundary) >= least) {
                    many++;
                }
            }
            return many;
        }

        int numberOf(long name) {
            for (int word = 0; word < wordCount; word++) {
                if (names[word] == name) {
                    return word;
                }
            }
            return NONE;
        }

        /** The number of a word that is mentioned; NONE if it is new and there are too many. */
        int mention(long name) {
            int known = numberOf(name);
            if (known != NONE || wordCount >= MAX_WORDS) {
                return known;
            }
            names[wordCount] = name;
            wordCount++;
            return wordCount - 1;
        }

        int countIn(int word, int from, int to) {
            int times = 0;
            for (int segment = from; segment <= to; segment++) {
                int size = sizeOf(segment);
                for (int k = 0; k < size; k++) {
                    if (wordAt(segment, k) == word) {
                        times++;
                    }
                }
            }
            return times;
        }

        /** Adds the words of some segments to the counts that begin at an offset. */
        void tally(int from, int to, int[] counts, int offset) {
            for (int segment = from; segment <= to; segment++) {
                int size = sizeOf(segment);
                for (int k = 0; k < size; k++) {
                    counts[offset + wordAt(segment, k)]++;
                }
            }
        }
    }

    /** The sponsor slots in ascending order of their wished times. */
    private static final class Slots {
        int slotCount;
        final int[] wishes = new int[MAX_SLOTS];
        final int[] lengths = new int[MAX_SLOTS];
        final int[] reaches = new int[MAX_SLOTS];

        void copyFrom(Slots other) {
            slotCount = other.slotCount;
            System.arraycopy(other.wishes, 0, wishes, 0, MAX_SLOTS);
            System.arraycopy(other.lengths, 0, lengths, 0, MAX_SLOTS);
            System.arraycopy(other.reaches, 0, reaches, 0, MAX_SLOTS);
        }

        /** Puts a slot behind all that are not later; answers its number, NONE if there is no room. */
        int insert(int wished, int length, int reach) {
            if (slotCount >= MAX_SLOTS) {
                return NONE;
            }
            int slot = slotCount;
            while (slot > 0 && wishes[slot - 1] > wished) {
                take(slot, slot - 1);
                slot--;
            }
            wishes[slot] = wished;
            lengths[slot] = length;
            reaches[slot] = reach;
            slotCount++;
            return slot;
        }

        void drop(int slot) {
            for (int later = slot; later < slotCount - 1; later++) {
                take(later, later + 1);
            }
            slotCount--;
        }

        private void take(int slot, int from) {
            wishes[slot] = wishes[from];
            lengths[slot] = lengths[from];
            reaches[slot] = reaches[from];
        }
    }

    /** The version that was kept: its segments by their rows, with their times then. */
    private static final class Kept {
        boolean exists;
        int segmentCount;
        int total;
        final int[] rows = new int[MAX_SEGMENTS];
        final int[] starts = new int[MAX_SEGMENTS];
        final int[] durations = new int[MAX_SEGMENTS];

        void copyFrom(Kept other) {
            exists = other.exists;
            segmentCount = other.segmentCount;
            total = other.total;
            System.arraycopy(other.rows, 0, rows, 0, MAX_SEGMENTS);
            System.arraycopy(other.starts, 0, starts, 0, MAX_SEGMENTS);
            System.arraycopy(other.durations, 0, durations, 0, MAX_SEGMENTS);
        }

        void takeVersion(Transcript transcript) {
            exists = true;
            segmentCount = transcript.segmentCount;
            total = 0;
            for (int segment = 0; segment < segmentCount; segment++) {
                rows[segment] = transcript.order[segment];
                starts[segment] = total;
                durations[segment] = transcript.durationOf(segment);
                total += durations[segment];
            }
        }

        int carry(int time, Transcript transcript) {
            for (int old = 0; old < segmentCount; old++) {
                // a segment that ended by then is neither the spoken one nor behind it
                if (time >= starts[old] + durations[old]) {
                    continue;
                }
                int segment = transcript.segmentOfRow(rows[old]);
                if (segment != NONE) {
                    // for a segment behind the spoken one the time lies ahead of its begin
                    int inside = Math.max(0, time - starts[old]);
                    return transcript.startOf(segment) + Math.min(inside, transcript.durationOf(segment));
                }
            }
            return transcript.startOf(transcript.segmentCount);
        }
    }

    /** All that a change can change, and that undo brings back. */
    private static final class Show {
        final Transcript transcript = new Transcript();
        final Slots slots = new Slots();
        final Kept kept = new Kept();
        final int[] settings = FIRST_SETTINGS.clone();

        void clear() {
            transcript.clear();
            slots.slotCount = 0;
            kept.exists = false;
            System.arraycopy(FIRST_SETTINGS, 0, settings, 0, SETTINGS);
        }

        void copyFrom(Show other) {
            transcript.copyFrom(other.transcript);
            slots.copyFrom(other.slots);
            kept.copyFrom(other.kept);
            System.arraycopy(other.settings, 0, settings, 0, SETTINGS);
        }
    }

    /** The shows as they were before the latest changes, in a ring. */
    private static final class History {
        int size;
        private int oldest;
        private final Show[] shows = new Show[MAX_CHANGES];

        History() {
            for (int i = 0; i < MAX_CHANGES; i++) {
                shows[i] = new Show();
            }
        }

        void remember(Show show) {
            shows[(oldest + size) % MAX_CHANGES].copyFrom(show);
            if (size < MAX_CHANGES) {
                size++;
            } else {
                oldest = (oldest + 1) % MAX_CHANGES;
            }
        }

        void bringBack(Show show) {
            if (size > 0) {
                size--;
                show.copyFrom(shows[(oldest + size) % MAX_CHANGES]);
            }
        }
    }

    /** The text buffer, and the reading of a show from it. */
    private static final class Reader {
        private static final long SEG = 19L << 10 | 5L << 5 | 7L;
        private static final long SLOT = 19L << 15 | 12L << 10 | 15L << 5 | 20L;
        private static final long SET = 19L << 10 | 5L << 5 | 20L;
        // what readWord answers if there is no word, or one that is too long for a NAME
        private static final long NO_NAME = 0L;
        // above the range of every number, and low enough to take one more digit
        private static final int HUGE = 100000;

        int bufferLength;
        int errorCode;
        int errorAt = NONE;
        final Show draft = new Show();
        private final int[] text = new int[MAX_TEXT];
        private int end;
        private int at;

        boolean hasRoom() {
            return bufferLength + APPENDED <= MAX_TEXT;
        }

        void takeBytes(int four) {
            for (int shift = 24; shift >= 0 && bufferLength < MAX_TEXT; shift -= 8) {
                text[bufferLength] = four >>> shift & 255;
                bufferLength++;
            }
        }

        void readShow(int length) {
            end = Math.min(length, bufferLength);
            at = 0;
            bufferLength = 0;
            errorCode = 0;
            errorAt = NONE;
            draft.clear();
            skipSpaces();
            for (int statements = 0; statements < MAX_TEXT && errorCode == 0 && at < end; statements++) {
                readStatement();
                readSemicolon();
                skipSpaces();
            }
        }

        /** Reading goes on behind an error, but only the first one counts. */
        private void fail(int code, int position) {
            if (errorCode == 0) {
                errorCode = code;
                errorAt = position;
            }
        }

        private void readStatement() {
            int from = at;
            long word = readWord();
            if (word == SEG) {
                readSegment(from);
            } else if (word == SLOT) {
                readSlot(from);
            } else if (word == SET) {
                readSetting();
            } else {
                fail(SYNTAX_ERROR, from);
            }
        }

        private void readSegment(int from) {
            if (draft.transcript.segmentCount >= MAX_SEGMENTS) {
                fail(TOO_MANY, from);
                return;
            }
            int duration = readNumber(1, MAX_DURATION);
            int pause = readNumber(0, MAX_PAUSE);
            draft.transcript.addSegment(duration, pause);
            readName();
            skipSpaces();
            for (int names = 1; names < MAX_TEXT && errorCode == 0 && isLetter(); names++) {
                readName();
                skipSpaces();
            }
        }

        /** Reads a NAME as a word of the last segment. */
        private void readName() {
            skipSpaces();
            int from = at;
            long name = readWord();
            if (name == NO_NAME) {
                fail(SYNTAX_ERROR, from);
            }
            if (errorCode != 0) {
                return;
            }
            Transcript transcript = draft.transcript;
            int segment = transcript.segmentCount - 1;
            int word = transcript.mention(name);
            if (segment < 0 || word == NONE || !transcript.putWord(segment, word)) {
                fail(TOO_MANY, from);
            }
        }

        private void readSlot(int from) {
            if (draft.slots.slotCount >= MAX_SLOTS) {
                fail(TOO_MANY, from);
                return;
            }
            int wished = readNumber(0, MAX_WISHED);
            int length = readNumber(1, MAX_LENGTH);
            int reach = readNumber(0, MAX_REACH);
            draft.slots.insert(wished, length, reach);
        }

        private void readSetting() {
            int setting = readNumber(0, SETTINGS - 1);
            draft.settings[setting] = readNumber(LOWEST_SETTINGS[setting], HIGHEST_SETTINGS[setting]);
        }

        private void readSemicolon() {
            skipSpaces();
            if (at < end && text[at] == ';') {
                at++;
            } else {
                fail(SYNTAX_ERROR, at);
            }
        }

        /** Reads a number; answers the lowest one of the range if there is an error. */
        private int readNumber(int lowest, int highest) {
            skipSpaces();
            int from = at;
            int number = 0;
            while (at < end && isDigit()) {
                number = Math.min(HUGE, number * 10 + text[at] - '0');
                at++;
            }
            if (at == from) {
                fail(SYNTAX_ERROR, from);
                return lowest;
            }
            if (number < lowest || number > highest) {
                fail(VALUE_ERROR, from);
                return lowest;
            }
            return number;
        }

        private long readWord() {
            long name = 0;
            int from = at;
            while (at < end && isLetter()) {
                name = name << LETTER_BITS | text[at] - 'a' + 1;
                at++;
            }
            return at - from <= MAX_LETTERS ? name : NO_NAME;
        }

        private void skipSpaces() {
            while (at < end && text[at] == ' ') {
                at++;
            }
        }

        private boolean isLetter() {
            return at < end && text[at] >= 'a' && text[at] <= 'z';
        }

        private boolean isDigit() {
            return at < end && text[at] >= '0' && text[at] <= '9';
        }
    }

    /** The changes of topic and the best division of the show. */
    private static final class Division {
        // 0 if there is no best division
        int chapterCount;
        int bestWorth;
        final int[] changes = new int[MAX_BOUNDARIES];
        final int[] firsts = new int[MAX_SEGMENTS];
        final int[] chapterAt = new int[MAX_SEGMENTS];
        // of the latest solve, for the segments from each one on: the worth, the number of cuts and the
        // last segment of the first chapter (NONE if they can't be divided)
        final int[] worths = new int[MAX_SEGMENTS];
        private final int[] cutCounts = new int[MAX_SEGMENTS];
        private final int[] lasts = new int[MAX_SEGMENTS];
        private final int[] starts = new int[MAX_SEGMENTS + 1];
        private final long[] ways = new long[MAX_SEGMENTS + 1];
        // how often each word stands in the windows of a boundary
        private final int[] left = new int[MAX_WORDS];
        private final int[] right = new int[MAX_WORDS];
        private int segmentCount;
        private int least;
        private int most;

        void update(Show show) {
            segmentCount = show.transcript.segmentCount;
            least = show.settings[LEAST];
            most = show.settings[MOST];
            starts[0] = 0;
            for (int segment = 0; segment < segmentCount; segment++) {
                starts[segment + 1] = starts[segment] + show.transcript.durationOf(segment);
            }
            for (int boundary = 0; boundary < segmentCount - 1; boundary++) {
                changes[boundary] = 100 - windowLikeness(show.transcript, boundary, show.settings[WINDOW]);
            }
            chapterCount = 0;
            if (solve(show.settings[PRICE], NONE, NONE)) {
                takeBest();
            }
        }

        private int windowLikeness(Transcript transcript, int boundary, int window) {
            Arrays.fill(left, 0);
            Arrays.fill(right, 0);
            transcript.tally(Math.max(0, boundary - window + 1), boundary, left, 0);
            transcript.tally(boundary + 1, Math.min(segmentCount - 1, boundary + window), right, 0);
            return percentAlike(left, 0, right, 0);
        }

        /**
         * Finds the best of the allowed divisions that have a wanted cut and lack a barred one (NONE: no
         * such demand); answers whether there is one. It goes from the end to the begin, so that of
         * divisions that are equally good the lowest first cut can be taken.
         */
        boolean solve(int price, int wanted, int barred) {
            for (int first = segmentCount - 1; first >= 0; first--) {
                lasts[first] = NONE;
                for (int last = first; last < segmentCount; last++) {
                    boolean hidesWanted = first <= wanted && wanted < last;
                    if (isLongEnough(first, last) && !hidesWanted && last != barred) {
                        consider(first, last, price);
                    }
                }
            }
            return segmentCount > 0 && lasts[0] != NONE;
        }

        private void consider(int first, int last, int price) {
            int worth = 0;
            int cuts = 0;
            if (last + 1 < segmentCount) {
                if (lasts[last + 1] == NONE) {
                    return;
                }
                worth = changes[last] - price + worths[last + 1];
                cuts = cutCounts[last + 1] + 1;
            }
            boolean better = lasts[first] == NONE || worth > worths[first]
                    || worth == worths[first] && cuts < cutCounts[first];
            if (better) {
                worths[first] = worth;
                cutCounts[first] = cuts;
                lasts[first] = last;
            }
        }

        /** Keeps the division that was solved, as later calls solve for other demands. */
        private void takeBest() {
            bestWorth = worths[0];
            int next = 0;
            for (int segment = 0; segment < segmentCount; segment++) {
                if (segment == next) {
                    firsts[chapterCount] = segment;
                    chapterCount++;
                    next = lasts[segment] + 1;
                }
                chapterAt[segment] = chapterCount - 1;
            }
        }

        /** Whether the duration of such a chapter is from least to most. */
        private boolean isLongEnough(int first, int last) {
            int duration = durationFrom(first, last);
            return duration >= least && duration <= most;
        }

        int durationFrom(int first, int last) {
            return starts[last + 1] - starts[first];
        }

        int lastOf(int chapter) {
            return chapter + 1 < chapterCount ? firsts[chapter + 1] - 1 : segmentCount - 1;
        }

        boolean isCut(int boundary) {
            return chapterCount > 0 && chapterAt[boundary] != chapterAt[boundary + 1];
        }

        int timeOf(int boundary) {
            return starts[boundary + 1];
        }

        int worthOfCuts(int cuts, int price) {
            int worth = 0;
            for (int boundary = 0; boundary < segmentCount - 1; boundary++) {
                if ((cuts >>> boundary & 1) == 1) {
                    worth += changes[boundary] - price;
                }
            }
            return worth;
        }

        boolean allows(int cuts) {
            int first = 0;
            for (int last = 0; last < segmentCount; last++) {
                if (last == segmentCount - 1 || (cuts >>> last & 1) == 1) {
                    if (!isLongEnough(first, last)) {
                        return false;
                    }
                    first = last + 1;
                }
            }
            return segmentCount > 0;
        }

        long countAllowed() {
            ways[segmentCount] = 1;
            for (int first = segmentCount - 1; first >= 0; first--) {
                ways[first] = 0;
                for (int last = first; last < segmentCount; last++) {
                    if (isLongEnough(first, last)) {
                        ways[first] += ways[last + 1];
                    }
                }
            }
            return segmentCount > 0 ? ways[0] : 0;
        }

        /** A lower price never makes fewer chapters the best, so the price is found by halving. */
        int greatestPrice(int many) {
            if (chaptersAtPrice(0) < many) {
                return NONE;
            }
            int price = 0;
            for (int step = 64; step > 0; step /= 2) {
                if (price + step <= MAX_PRICE && chaptersAtPrice(price + step) >= many) {
                    price += step;
                }
            }
            return price;
        }

        private int chaptersAtPrice(int price) {
            return solve(price, NONE, NONE) ? cutCounts[0] + 1 : 0;
        }
    }

    /** The best placement of the slots. */
    private static final class Placement {
        // NONE if there is no placement
        int bestCost;
        final int[] places = new int[MAX_SLOTS];
        // the least cost of a slot and those behind it with the slot at a boundary; NONE if it can't be there
        private final int[] costs = new int[MAX_SLOTS * MAX_BOUNDARIES];
        // the speaking times of the boundaries, and whether a slot pays for being there
        private final int[] times = new int[MAX_BOUNDARIES];
        private final boolean[] cuts = new boolean[MAX_BOUNDARIES];
        private int boundaryCount;

        void update(Show show, Division division) {
            boundaryCount = show.transcript.boundaryCount();
            for (int boundary = 0; boundary < boundaryCount; boundary++) {
                times[boundary] = division.timeOf(boundary);
                cuts[boundary] = division.isCut(boundary);
            }
            for (int slot = show.slots.slotCount - 1; slot >= 0; slot--) {
                for (int boundary = 0; boundary < boundaryCount; boundary++) {
                    costs[slot * MAX_BOUNDARIES + boundary] = leastCost(show, slot, boundary);
                }
            }
            takeBest(show);
        }

        private int leastCost(Show show, int slot, int boundary) {
            if (!isChoice(show, slot, boundary)) {
                return NONE;
            }
            int own = distance(show.slots, slot, boundary) + (cuts[boundary] ? 0 : NO_CUT_COST);
            if (slot + 1 >= show.slots.slotCount) {
                return own;
            }
            int next = cheapest(slot + 1, boundary + 1, times[boundary] + show.settings[APART]);
            return next == NONE ? NONE : own + costs[(slot + 1) * MAX_BOUNDARIES + next];
        }

        /** Of a slot's cheapest boundaries the lowest, from a boundary and from a time on; NONE if it has none. */
        private int cheapest(int slot, int from, int earliest) {
            int best = NONE;
            int bestOf = NONE;
            for (int boundary = from; boundary < boundaryCount; boundary++) {
                int cost = costs[slot * MAX_BOUNDARIES + boundary];
                if (cost != NONE && times[boundary] >= earliest && (best == NONE || cost < bestOf)) {
                    best = boundary;
                    bestOf = cost;
                }
            }
            return best;
        }

        private void takeBest(Show show) {
            bestCost = 0;
            int from = 0;
            int earliest = 0;
            for (int slot = 0; slot < show.slots.slotCount; slot++) {
                int place = cheapest(slot, from, earliest);
                if (place == NONE) {
                    bestCost = NONE;
                    return;
                }
                if (slot == 0) {
                    bestCost = costs[place];
                }
                places[slot] = place;
                from = place + 1;
                earliest = times[place] + show.settings[APART];
            }
        }

        private boolean isChoice(Show show, int slot, int boundary) {
            return show.transcript.pauseOf(boundary) >= show.settings[PAUSE]
                    && distance(show.slots, slot, boundary) <= show.slots.reaches[slot];
        }

        private int distance(Slots slots, int slot, int boundary) {
            return Math.abs(times[boundary] - slots.wishes[slot]);
        }

        int countChoices(Show show, int slot) {
            int many = 0;
            for (int boundary = 0; boundary < boundaryCount; boundary++) {
                if (isChoice(show, slot, boundary)) {
                    many++;
                }
            }
            return many;
        }

        int realTime(Show show, int segment) {
            int time = show.transcript.startOf(segment);
            if (bestCost == NONE) {
                return time;
            }
            for (int slot = 0; slot < show.slots.slotCount; slot++) {
                if (places[slot] < segment) {
                    time += show.slots.lengths[slot];
                }
            }
            return time;
        }
    }

    /** The words of the chapters of the best division, and their marks. */
    private static final class Titles {
        // for each word the number of chapters in which it stands
        final int[] spread = new int[MAX_WORDS];
        // how often each word stands in each chapter
        private final int[] counts = new int[MAX_SEGMENTS * MAX_WORDS];

        void update(Transcript transcript, Division division) {
            Arrays.fill(counts, 0);
            Arrays.fill(spread, 0);
            for (int chapter = 0; chapter < division.chapterCount; chapter++) {
                int offset = chapter * MAX_WORDS;
                transcript.tally(division.firsts[chapter], division.lastOf(chapter), counts, offset);
                for (int word = 0; word < MAX_WORDS; word++) {
                    spread[word] += counts[offset + word] > 0 ? 1 : 0;
                }
            }
        }

        int differentWords(int chapter) {
            int many = 0;
            for (int word = 0; word < MAX_WORDS; word++) {
                if (stands(chapter, word)) {
                    many++;
                }
            }
            return many;
        }

        private boolean stands(int chapter, int word) {
            return counts[chapter * MAX_WORDS + word] > 0;
        }

        int markOf(int chapter, int word) {
            int chapters = spread[word];
            return chapters == 0 ? 0 : 1000 * counts[chapter * MAX_WORDS + word] / chapters;
        }

        int mostTypical(Transcript transcript, int chapter, int first, int last) {
            int best = first;
            int bestSum = NONE;
            for (int segment = first; segment <= last; segment++) {
                int sum = 0;
                int size = transcript.sizeOf(segment);
                for (int k = 0; k < size; k++) {
                    sum += markOf(chapter, transcript.wordAt(segment, k));
                }
                if (sum > bestSum) {
                    best = segment;
                    bestSum = sum;
                }
            }
            return best;
        }

        int chapterLikeness(int one, int other) {
            return percentAlike(counts, one * MAX_WORDS, counts, other * MAX_WORDS);
        }

        int titleWord(int chapter, int k) {
            int word = nextInTitle(chapter, NONE);
            for (int passed = 0; passed < k && word != NONE; passed++) {
                word = nextInTitle(chapter, word);
            }
            return word;
        }

        /** The first word of the title behind another one, or behind none. */
        private int nextInTitle(int chapter, int before) {
            int best = NONE;
            for (int word = 0; word < MAX_WORDS; word++) {
                boolean left = stands(chapter, word) && (before == NONE || precedes(chapter, before, word));
                if (left && (best == NONE || precedes(chapter, word, best))) {
                    best = word;
                }
            }
            return best;
        }

        private boolean precedes(int chapter, int word, int other) {
            int mark = markOf(chapter, word);
            int otherMark = markOf(chapter, other);
            return mark > otherMark || mark == otherMark && word < other;
        }
    }

    /** The text that was written last. */
    private static final class Page {
        int length;
        final int[] bytes = new int[MAX_WRITTEN];

        void clear() {
            length = 0;
        }

        void put(char sign) {
            if (length < MAX_WRITTEN) {
                bytes[length] = sign;
                length++;
            }
        }

        void putNumber(int number) {
            for (int unit = 1000000000; unit > 0; unit /= 10) {
                if (number >= unit || unit == 1) {
                    put((char) ('0' + number / unit % 10));
                }
            }
        }

        void putName(long name) {
            for (int shift = (MAX_LETTERS - 1) * LETTER_BITS; shift >= 0; shift -= LETTER_BITS) {
                int letter = (int) (name >>> shift & 31);
                if (letter > 0) {
                    put((char) ('a' - 1 + letter));
                }
            }
        }
    }
}
