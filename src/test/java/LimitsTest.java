import java.util.ArrayList;
import java.util.List;

/** Shows of full size: too large to try all divisions, so another way finds the best one. */
public final class LimitsTest {
    private static final Check CHECK = new Check();
    private static long seed = 5;

    private static int below(int bound) {
        seed = seed * 6364136223846793005L + 1442695040888963407L;
        return (int) ((seed >>> 33) % bound);
    }

    public static void main(String[] args) {
        for (int round = 0; round < 60; round++) {
            fullShow(round);
        }
        longestText();
        longestLife();
        CHECK.end("LimitsTest");
    }

    private static String fullText(int round) {
        StringBuilder text = new StringBuilder();
        text.append("set 0 ").append(1 + below(30)).append(";set 1 ").append(30 + below(90)).append(';');
        text.append("set 2 ").append(1 + round % 5).append(";set 3 ").append(below(101)).append(';');
        for (int i = 0; i < 32; i++) {
            text.append("seg").append(9 + below(3) * 9).append(' ').append(below(10));
            for (int k = below(3); k >= 0; k--) {
                text.append(' ').append((char) ('a' + below(2 + round % 7)));
            }
            text.append(';');
        }
        for (int i = below(6); i > 0; i--) {
            text.append("slot").append(below(600)).append(' ').append(1 + below(300)).append(" 40;");
        }
        return text.toString();
    }

    private static void fullShow(int round) {
        ChapterBuilder x = Check.show(fullText(round));
        List<Integer> best = bestCuts(x, x.setting(3));
        CHECK.equal("chapters", best == null ? -1 : best.size() + 1, x.chapters());
        if (best != null) {
            int mask = 0;
            for (int i = 0; i < best.size(); i++) {
                CHECK.equal("round " + round + " cut " + i, best.get(i), x.chapter(i, 1));
                mask |= 1 << best.get(i);
            }
            CHECK.equal("worth", x.worthOf(mask), x.worth());
            CHECK.isTrue("allowed", x.isAllowed(mask));
        }
        for (int many : new int[] {1, 4, 6, 8, 11, 16, 32}) {
            CHECK.same("priceFor " + many, priceFor(x, many), Check.outcome(() -> x.priceFor(many)));
        }
        places(x, best == null ? new ArrayList<>() : best);
    }

    private static String priceFor(ChapterBuilder x, int many) {
        for (int price = 100; price >= 0; price--) {
            List<Integer> best = bestCuts(x, price);
            if (best != null && best.size() + 1 >= many) {
                return Integer.toString(price);
            }
        }
        return "throws.NoSuchElementException";
    }

    /** From the begin to the end, with the cuts themselves at hand. */
    private static List<Integer> bestCuts(ChapterBuilder x, int price) {
        int n = x.count(0);
        List<List<Integer>> best = new ArrayList<>();
        int[] worths = new int[n];
        for (int last = 0; last < n; last++) {
            best.add(null);
            for (int first = 0; first <= last; first++) {
                int duration = x.segment(last, 3) + x.segment(last, 0) - x.segment(first, 3);
                if (duration < x.setting(0) || duration > x.setting(1) || first > 0 && best.get(first - 1) == null) {
                    continue;
                }
                List<Integer> cuts = new ArrayList<>();
                int worth = 0;
                if (first > 0) {
                    cuts.addAll(best.get(first - 1));
                    cuts.add(first - 1);
                    worth = worths[first - 1] + x.change(first - 1) - price;
                }
                if (best.get(last) == null || better(cuts, worth, best.get(last), worths[last])) {
                    best.set(last, cuts);
                    worths[last] = worth;
                }
            }
        }
        return best.get(n - 1);
    }

    private static boolean better(List<Integer> cuts, int worth, List<Integer> than, int thanWorth) {
        if (worth != thanWorth) {
            return worth > thanWorth;
        }
        if (cuts.size() != than.size()) {
            return cuts.size() < than.size();
        }
        for (int i = 0; i < cuts.size(); i++) {
            if (!cuts.get(i).equals(than.get(i))) {
                return cuts.get(i) < than.get(i);
            }
        }
        return false;
    }

    private static int bestCost;
    private static int[] bestPlaces;

    private static void places(ChapterBuilder x, List<Integer> cuts) {
        bestCost = -1;
        bestPlaces = null;
        tryPlaces(x, cuts, new int[x.count(2)], 0, 0);
        CHECK.equal("placementCost", bestCost, x.placementCost());
        for (int slot = 0; slot < x.count(2); slot++) {
            CHECK.equal("placeOf " + slot, bestPlaces == null ? -1 : bestPlaces[slot], x.placeOf(slot));
        }
        int total = x.segment(31, 3);
        for (int slot = 0; slot < x.count(2) && bestPlaces != null; slot++) {
            total += x.slot(slot, 1);
        }
        CHECK.equal("real time of the last segment", total, x.segment(31, 4));
    }

    private static void tryPlaces(ChapterBuilder x, List<Integer> cuts, int[] places, int slot, int cost) {
        if (slot == places.length) {
            if (bestPlaces == null || cost < bestCost) {
                bestPlaces = places.clone();
                bestCost = cost;
            }
            return;
        }
        for (int k = slot == 0 ? 0 : places[slot - 1] + 1; k < 31; k++) {
            int time = x.segment(k + 1, 3);
            int far = Math.abs(time - x.slot(slot, 0));
            boolean apart = slot == 0 || time - x.segment(places[slot - 1] + 1, 3) >= x.setting(5);
            if (apart && x.segment(k, 1) >= x.setting(4) && far <= x.slot(slot, 2)) {
                places[slot] = k;
                tryPlaces(x, cuts, places, slot + 1, cost + far + (cuts.contains(k) ? 0 : 20));
            }
        }
    }

    /** 32 chapters with late times and long titles. */
    private static void longestText() {
        ChapterBuilder x = Check.show("set 0 1;set 1 999;set 2 1;set 4 0;seg 1 0 abcdefgh bcdefghi cdefghij;"
                + "seg 1 0 d;".repeat(31));
        for (int segment = 0; segment < 32; segment++) {
            x.setDuration(segment, 999);
        }
        for (int segment = 1; segment < 32; segment++) {
            // twice, so that they come ahead of d
            for (int k = 0; k < 6; k++) {
                x.addWord(segment, k % 3);
            }
        }
        for (int slot = 0; slot < 5; slot++) {
            x.addSlot(999 * (slot + 1), 300, 0);
        }
        CHECK.equal("32 chapters", 32, x.chapters());
        StringBuilder due = new StringBuilder();
        for (int chapter = 0; chapter < 32; chapter++) {
            due.append(chapter * 999 + 300 * Math.min(5, chapter)).append(" abcdefgh-bcdefghi-cdefghij;");
        }
        CHECK.equal("words of the last chapter", 4, x.chapter(31, 3));
        CHECK.equal("length", due.length(), x.writeChapters());
        CHECK.same("text", due.toString(), Check.written(x));
    }

    /** A word for each of 256 places, all calls of a long life, and all rows full. */
    private static void longestLife() {
        ChapterBuilder x = Check.show("seg 9 9 a b c d e f g h;".repeat(32));
        CHECK.equal("all words", 256, x.count(4));
        CHECK.equal("the last removed", 31, x.removeSegment(31));
        CHECK.equal("brought back", 1, x.undo());
        for (int call = 0; call < 150; call++) {
            x.moveSegment(call % 32, call * 7 % 32);
            CHECK.equal("32 segments", 32, x.count(0));
        }
        x.keep();
        CHECK.equal("no change of topic", 0, x.change(15));
        for (int left = 7; left >= 0; left--) {
            CHECK.equal("undo", left, x.undo());
        }
        CHECK.equal("uses", 32, x.uses(7, 0, 31));
        x.keep();
        for (int left = 31; left >= 0; left--) {
            CHECK.equal("removeSegment", left, x.removeSegment(left));
            CHECK.equal("to the end of the show", 9 * left, x.carried(287));
        }
    }
}
