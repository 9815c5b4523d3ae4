import java.util.Arrays;

/** Long runs of calls, made by a fixed arithmetic sequence, on the program and on the model. */
public final class RunsTest {
    private static final Check CHECK = new Check();
    private static final int RUNS = 220;
    private static final int CALLS = 330;
    private static final String[] LEXICON = {"a", "sea", "boat", "seg", "set", "slot", "market", "harbours", "zz",
        "wind", "storm", "tea", "fog", "reef", "pier", "crab", "isle", "salt", "oars", "mast", "sail", "deck",
        "hull", "keel", "rope", "knot", "buoy"};

    private static long seed;
    private static int divided;
    private static int placed;

    private static int below(int bound) {
        seed = seed * 6364136223846793005L + 1442695040888963407L;
        return (int) ((seed >>> 33) % bound);
    }

    private static int between(int low, int high) {
        return low + below(high - low + 1);
    }

    /** Mostly a number of the range, sometimes one just beside it. */
    private static int near(int low, int high) {
        boolean beside = high < low || below(12) == 0;
        return beside ? (below(2) == 0 ? low - 1 : high + 1) : between(low, high);
    }

    public static void main(String[] args) {
        for (int run = 0; run < RUNS; run++) {
            seed = 1000003L * run + 17;
            oneRun(run);
        }
        // else the runs would say little
        CHECK.isTrue("most runs have chapters", divided * 2 > RUNS * CALLS);
        CHECK.isTrue("many runs have slots in their places", placed * 6 > RUNS * CALLS);
        CHECK.end("RunsTest");
    }

    private static void oneRun(int run) {
        ChapterBuilder builder = new ChapterBuilder();
        Model model = new Model();
        int segments = run % 20 == 0 ? between(0, 2) : between(4, 10);
        int words = between(2, 27);
        put(builder, model, text(segments, words, false));
        for (int call = 0; call < CALLS; call++) {
            if (model.size() < 3 && below(4) == 0) {
                put(builder, model, text(between(5, 10), words, false));
            }
            oneCall(run, builder, model);
        }
        CHECK.same("run " + run + " written", model.written, Check.written(builder));
    }

    private static String text(int segments, int words, boolean wild) {
        StringBuilder text = new StringBuilder();
        int least = between(20, 150);
        text.append("set 0 ").append(least).append(";set 1 ").append(least + between(50, 400)).append(';');
        text.append("set 3 ").append(between(0, 100)).append(";set 5 ").append(between(0, 60)).append(';');
        for (int i = 0; i < segments; i++) {
            text.append("seg ").append(between(20, 99)).append(' ').append(between(0, 12));
            int size = between(1, 8) > 6 ? 8 : between(1, 5);
            for (int k = 0; k < size; k++) {
                text.append(' ').append(LEXICON[below(Math.min(words, LEXICON.length))]);
            }
            text.append("; ".substring(0, between(1, 2)));
        }
        for (int i = between(0, 3); i > 0; i--) {
            text.append("slot ").append(between(0, 60 * segments + 50)).append(' ').append(between(1, 60)).append(' ');
            text.append(between(50, 600)).append(';');
        }
        if (wild && text.length() > 0) {
            damage(text);
        }
        return text.length() > 900 ? text.substring(0, 900) : text.toString();
    }

    private static void damage(StringBuilder text) {
        String signs = "; 09azA{\u00e9\u0000seg";
        for (int i = between(1, 2); i > 0; i--) {
            int at = below(text.length());
            char sign = signs.charAt(below(signs.length()));
            switch (below(3)) {
                case 0:
                    text.setCharAt(at, sign);
                    break;
                case 1:
                    text.insert(at, sign);
                    break;
                default:
                    text.deleteCharAt(at);
                    break;
            }
            if (text.length() == 0) {
                return;
            }
        }
    }

    private static void put(ChapterBuilder builder, Model model, String text) {
        for (int from = 0; from < text.length(); from += 20) {
            int[] n = new int[5];
            for (int i = 0; i < 20; i++) {
                int sign = from + i < text.length() ? text.charAt(from + i) : ' ';
                n[i / 4] = n[i / 4] << 8 | sign & 255;
            }
            String due = Check.outcome(() -> model.append(n));
            CHECK.same("append", due, Check.outcome(() -> builder.append(n[0], n[1], n[2], n[3], n[4])));
        }
        int length = Math.min(text.length(), model.buffer.length());
        CHECK.same("load " + text, Check.outcome(() -> model.load(length)),
                Check.outcome(() -> builder.load(length)));
        CHECK.equal("errorPosition " + text, model.errorPosition, builder.errorPosition());
    }

    private static void oneCall(int run, ChapterBuilder x, Model m) {
        int n = m.size();
        int s = near(0, n - 1);
        int b = near(0, n - 2);
        int w = near(0, m.state.words.size() - 1);
        int c = near(0, Math.max(0, m.chapters() - 1));
        int t = near(0, m.state.slots.size() - 1);
        divided += m.chapters() > 1 ? 1 : 0;
        placed += m.state.slots.size() > 1 && m.placementCost() >= 0 ? 1 : 0;
        int kind = below(70);
        switch (kind) {
            case 0: same(run, "count", () -> m.count(s), () -> x.count(s)); break;
            case 1: each("count", 0, 5, a -> m.count(a), a -> x.count(a)); break;
            case 2: each("setting", -1, 6, a -> m.setting(a), a -> x.setting(a)); break;
            case 3: case 4: case 5: {
                int setting = near(0, 5);
                int value = settingValue(setting);
                same(run, "set " + setting + " " + value, () -> m.set(setting, value), () -> x.set(setting, value));
                break;
            }
            case 6: case 7: each("segment", -1, 5, a -> m.segment(s, a), a -> x.segment(s, a)); break;
            case 8: each("wordOf", -1, 8, a -> m.wordOf(s, a), a -> x.wordOf(s, a)); break;
            case 9: {
                long name = Check.code(LEXICON[below(LEXICON.length)]);
                same(run, "find", () -> m.find(name), () -> x.find(name));
                break;
            }
            case 10: case 11: {
                int to = near(0, n - 1);
                same(run, "uses", () -> m.uses(w, s, to), () -> x.uses(w, s, to));
                break;
            }
            case 12: case 13: case 14: {
                int value = below(8) == 0 ? near(1, 999) : near(20, 120);
                same(run, "setDuration", () -> m.setDuration(s, value), () -> x.setDuration(s, value));
                break;
            }
            case 15: case 16: {
                int value = below(3) == 0 ? near(0, 99) : near(0, 10);
                same(run, "setPause", () -> m.setPause(s, value), () -> x.setPause(s, value));
                break;
            }
            case 17: case 18: same(run, "addWord", () -> m.addWord(s, w), () -> x.addWord(s, w)); break;
            case 19:
                if (n > 4 || below(4) == 0) {
                    same(run, "removeSegment", () -> m.removeSegment(s), () -> x.removeSegment(s));
                }
                break;
            case 20: case 21: {
                int to = near(0, n - 1);
                same(run, "moveSegment", () -> m.moveSegment(s, to), () -> x.moveSegment(s, to));
                break;
            }
            case 22: {
                int time = near(0, m.start(n));
                same(run, "segmentAt", () -> m.segmentAt(time), () -> x.segmentAt(time));
                break;
            }
            case 23: case 24: each("change", -1, n, a -> m.change(a), a -> x.change(a)); break;
            case 25: same(run, "chapters", m::chapters, x::chapters); break;
            case 26: same(run, "worth", m::worth, x::worth); break;
            case 27: case 28: each("chapter", -1, 5, a -> m.chapter(c, a), a -> x.chapter(c, a)); break;
            case 29: each("chapterOf", -1, n, a -> m.chapterOf(a), a -> x.chapterOf(a)); break;
            case 30: case 31: {
                int mask = below(8) == 0 ? (int) seed : below(1 << Math.min(20, Math.max(n, 1)));
                same(run, "worthOf", () -> m.worthOf(mask), () -> x.worthOf(mask));
                same(run, "isAllowed", () -> m.isAllowed(mask), () -> x.isAllowed(mask) ? 1 : 0);
                break;
            }
            case 32: case 33: same(run, "divisions", m::divisions, x::divisions); break;
            case 34: case 35:
                same(run, "worthWith", () -> m.worthWith(b, true), () -> x.worthWith(b, true));
                same(run, "worthWith", () -> m.worthWith(b, false), () -> x.worthWith(b, false));
                break;
            case 36: {
                int many = below(4) == 0 ? near(1, 32) : near(1, 6);
                same(run, "priceFor", () -> m.priceFor(many), () -> x.priceFor(many));
                break;
            }
            case 37: same(run, "chaptersWith", () -> m.chaptersWith(w), () -> x.chaptersWith(w)); break;
            case 38: case 39: same(run, "typical", () -> m.typical(c), () -> x.typical(c)); break;
            case 40: case 41: each("likeness", -1, 5, a -> m.likeness(c, a), a -> x.likeness(c, a)); break;
            case 42: case 43: same(run, "mark", () -> m.mark(c, w), () -> x.mark(c, w)); break;
            case 44: case 45: each("title", -1, 3, a -> m.title(c, a), a -> x.title(c, a)); break;
            case 46: case 47: case 63: {
                int wished = near(0, below(12) == 0 ? 9999 : m.start(n));
                int length = near(1, 300);
                int reach = below(3) == 0 ? near(0, 50) : near(200, 999);
                same(run, "addSlot", () -> m.addSlot(wished, length, reach), () -> x.addSlot(wished, length, reach));
                break;
            }
            case 49: same(run, "removeSlot", () -> m.removeSlot(t), () -> x.removeSlot(t)); break;
            case 50: case 51: {
                int wished = below(2) == 0 && t >= 0 && t < m.state.slots.size()
                        ? m.state.slots.get(below(m.state.slots.size()))[0] : near(0, m.start(n) + 30);
                same(run, "moveSlot", () -> m.moveSlot(t, wished), () -> x.moveSlot(t, wished));
                break;
            }
            case 52: each("slot", -1, 3, a -> m.slot(t, a), a -> x.slot(t, a)); break;
            case 53: case 54: each("placeOf", -1, 5, a -> m.placeOf(a), a -> x.placeOf(a)); break;
            case 55: case 56: same(run, "placementCost", m::placementCost, x::placementCost); break;
            case 57: each("choices", -1, 5, a -> m.choices(a), a -> x.choices(a)); break;
            case 58: case 59: same(run, "keep", m::keep, x::keep); break;
            case 60: case 61: case 62: {
                int end = m.state.kept == null ? 1 : m.state.kept.stream().mapToInt(k -> k[2]).sum();
                int time = near(0, end);
                same(run, "carried", () -> m.carried(time), () -> x.carried(time));
                break;
            }
            case 48: case 64:
                same(run, "writeChapters", m::writeChapters, x::writeChapters);
                CHECK.same("written", m.written, Check.written(x));
                break;
            case 65: case 66: case 67:
                for (int i = below(3); i >= 0; i--) {
                    same(run, "undo", m::undo, x::undo);
                }
                break;
            case 68: put(x, m, text(between(2, 10), between(2, 27), below(2) > 0)); break;
            default: {
                int length = near(0, m.buffer.length());
                if (below(3) == 0) {
                    same(run, "load", () -> m.load(length), () -> x.load(length));
                } else {
                    int[] n5 = below(2) == 0 ? new int[] {0x73656731, 0x32203361, 0x62636465, 0x66206768, 0x69206a3b}
                            : new int[] {(int) seed, below(99), -below(99), 1936025376, 0x20202020};
                    same(run, "append", () -> m.append(n5),
                            () -> x.append(n5[0], n5[1], n5[2], n5[3], n5[4]));
                }
                CHECK.equal("errorPosition", m.errorPosition, x.errorPosition());
                break;
            }
        }
    }

    private static int settingValue(int setting) {
        int[] usual = {110, 700, 5, 100, 7, 60};
        int[] lowest = {1, 150, 1, 0, 0, 0};
        if (setting < 0 || setting > 5) {
            return below(10);
        }
        return below(20) == 0 ? near(Model.RANGES[setting][0], Model.RANGES[setting][1])
                : near(lowest[setting], usual[setting]);
    }

    private static void same(int run, String what, Check.Call due, Check.Call got) {
        CHECK.same("run " + run + ": " + what, Check.outcome(due), Check.outcome(got));
    }

    private interface Question {
        long answer(int argument);
    }

    private static void each(String what, int from, int to, Question due, Question got) {
        for (int argument : range(from, to)) {
            CHECK.same(what + " " + argument, Check.outcome(() -> due.answer(argument)),
                    Check.outcome(() -> got.answer(argument)));
        }
    }

    private static int[] range(int from, int to) {
        int[] range = new int[Math.max(0, to - from + 1)];
        Arrays.setAll(range, i -> from + i);
        return range;
    }
}
