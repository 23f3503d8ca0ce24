import java.util.ArrayList;
import java.util.Arrays;
import java.util.HashMap;
import java.util.List;
import java.util.Map;

/** The document once more, written for plainness alone: what GaugeWall answers is compared with it. */
final class WallModel {
    private static final int NONE = -1;

    private static final class Box {
        TextModel.Told told;
        List<Integer> looks = new ArrayList<>();
        Map<Integer, Long> renewals = new HashMap<>();
        int[] fixed;

        int renewedBy(int t) {
            for (int r = t; r >= 0; r--) {
                if (renewals.containsKey(r)) {
                    return r;
                }
            }
            return NONE;
        }

        boolean staleAt(int t) {
            return isStale(renewedBy(t), t);
        }

        boolean isStale(int renewed, int t) {
            return renewed == NONE || t - renewed > told.numbers[1];
        }
    }

    private final StringBuilder tape = new StringBuilder();
    private TextModel text = new TextModel("");
    private List<Box> boxes = new ArrayList<>();
    private int place = NONE;
    private int now;
    private int budget = 60;
    private final int[] costs = {1, 1, 1, 1, 1, 1};
    private final List<int[]> facts = new ArrayList<>();
    private final List<int[]> downs = new ArrayList<>();
    private int asked;
    private int spent;
    private int spentInAll;
    private int planStart;
    private int[] planSets;
    private int planLeft;
    private int[][] laid;

    int feed(int... words) {
        if (tape.length() + 20 > 2000) {
            return NONE;
        }
        for (int word : words) {
            for (int n = 0; n < 4; n++) {
                tape.append((char) (word >>> 24 - 8 * n & 255));
            }
        }
        return tape.length();
    }

    int back(int n) {
        if (n < 0 || n > tape.length()) {
            return NONE;
        }
        tape.setLength(tape.length() - n);
        return tape.length();
    }

    int read() {
        TextModel read = new TextModel(tape.toString());
        tape.setLength(0);
        place = read.place;
        if (read.fault == 0) {
            text = read;
            boxes = new ArrayList<>();
            for (TextModel.Told told : read.boxes) {
                Box box = new Box();
                box.told = told;
                boxes.add(box);
            }
            planSets = null;
            laid = null;
        }
        return read.fault;
    }

    int place() {
        return place;
    }

    boolean cost(int source, int c) {
        if (source < 0 || source > 5 || c < 1 || c > 9) {
            return false;
        }
        costs[source] = c;
        return true;
    }

    boolean budget(int b) {
        if (b < 0 || b > 60) {
            return false;
        }
        budget = b;
        return true;
    }

    int value(int source, int t, int v) {
        if (facts.size() == 400 || source < 0 || source > 5 || t < 0 || t > 399) {
            return NONE;
        }
        facts.add(new int[] {source, t, v});
        return facts.size() - 1;
    }

    boolean down(int source, int a, int b) {
        if (downs.size() == 40 || source < 0 || source > 5 || a < 0 || a >= b || b > 400 || a < now) {
            return false;
        }
        downs.add(new int[] {source, a, b});
        return true;
    }

    private boolean isDown(int source, int t) {
        return downs.stream().anyMatch(d -> d[0] == source && d[1] <= t && t < d[2]);
    }

    private long[] valuesNow() {
        long[] values = new long[6];
        for (int s = 0; s < 6; s++) {
            int latest = -1;
            for (int[] fact : facts) {
                if (fact[0] == s && fact[1] <= now && fact[1] >= latest) {
                    latest = fact[1];
                    values[s] = fact[2];
                }
            }
        }
        return values;
    }

    private int costOf(int set) {
        int sum = 0;
        for (int s = 0; s < 6; s++) {
            sum += (set >> s & 1) * costs[s];
        }
        return sum;
    }

    private boolean isRenewed(Box box, int set, int t) {
        for (int s = 0; s < 6; s++) {
            if ((box.told.sources >> s & 1) == 1 && ((set >> s & 1) == 0 || isDown(s, t))) {
                return false;
            }
        }
        return true;
    }

    int ask(int set) {
        if (set < 0 || set > 63) {
            return NONE;
        }
        int more = costOf(set & ~asked);
        if (more > 0 && spent + more > budget) {
            return -2;
        }
        asked |= set;
        spent += more;
        spentInAll += more;
        int renewed = 0;
        for (Box box : boxes) {
            if (!box.renewals.containsKey(now) && isRenewed(box, asked, now)) {
                box.renewals.put(now, text.evaluate(box.told.e, valuesNow()));
                renewed++;
            }
        }
        return renewed;
    }

    int tick() {
        if (now == 399) {
            return NONE;
        }
        asked = 0;
        spent = 0;
        return ++now;
    }

    private Box boxAt(int k) {
        return k < 0 || k >= boxes.size() ? null : boxes.get(k);
    }

    boolean look(int k) {
        if (boxAt(k) == null) {
            return false;
        }
        boxAt(k).looks.add(now);
        return true;
    }

    long shows(int k) {
        return showed(k, now);
    }

    long showed(int k, int t) {
        if (boxAt(k) == null || t < 0 || t > now || boxAt(k).renewedBy(t) == NONE) {
            return 0;
        }
        return boxAt(k).renewals.get(boxAt(k).renewedBy(t));
    }

    int box(int k, int what) {
        Box box = boxAt(k);
        if (box == null || what < 0 || what > 10) {
            return NONE;
        }
        if (what < 4) {
            return box.told.numbers[what];
        }
        switch (what) {
            case 4: return box.told.sources;
            case 5: return box.staleAt(now) ? 1 : 0;
            case 6: return aged(k, now);
            case 7: return box.looks.size();
            case 8: return box.looks.isEmpty() ? NONE : box.looks.get(box.looks.size() - 1);
            case 9: return box.renewals.size();
            default:
                int others = 0;
                for (Box other : boxes) {
                    others |= other == box ? 0 : other.told.sources;
                }
                return costOf(box.told.sources & ~others);
        }
    }

    int aged(int k, int t) {
        if (boxAt(k) == null || t < 0 || t > now || boxAt(k).renewedBy(t) == NONE) {
            return NONE;
        }
        return t - boxAt(k).renewedBy(t);
    }

    long let(int k) {
        return k < 0 || k >= text.lets.size() ? 0 : text.evaluate(text.lets.get(k).e, valuesNow());
    }

    int plan(int set, int h) {
        if (set <= 0 || set >= 1 << boxes.size() || Integer.bitCount(set) > 4 || h < 1 || h > 10 || now + h - 1 > 399) {
            return NONE;
        }
        int[] bestLeft = null;
        int[] best = null;
        for (int left = set;; left = left - 1 & set) {
            int[] rank = leftRank(left);
            if (bestLeft == null || Arrays.compare(rank, bestLeft) < 0) {
                int[] found = h <= 2 ? tryAll(set & ~left, h) : search(set & ~left, h);
                if (found != null) {
                    bestLeft = rank;
                    best = found;
                    planLeft = left;
                }
            }
            if (left == 0) {
                break;
            }
        }
        planStart = now;
        planSets = Arrays.copyOfRange(best, 1, best.length);
        return best[0];
    }

    /** Worth, how many, then for each box 0 if it is in: the least row is the one that is left. */
    private int[] leftRank(int left) {
        int[] rank = new int[8];
        for (int k = 0; k < 6; k++) {
            boolean in = (left >> k & 1) == 1;
            rank[0] += in ? boxes.get(k).told.numbers[0] : 0;
            rank[1] += in ? 1 : 0;
            rank[2 + k] = in ? 0 : 1;
        }
        return rank;
    }

    private boolean mayAsk(int set, int t) {
        for (int s = 0; s < 6; s++) {
            if ((set >> s & 1) == 1 && isDown(s, t) && !(t == now && (asked >> s & 1) == 1)) {
                return false;
            }
        }
        int more = t == now ? costOf(set & ~asked) : costOf(set);
        return more == 0 || (t == now ? spent : 0) + more <= budget;
    }

    /** All rows of sets for one tick or two, just as the document says; costs first, then the sets. */
    private int[] tryAll(int kept, int h) {
        int[] best = null;
        for (int first = 0; first < 64; first++) {
            for (int second = 0; second < (h == 2 ? 64 : 1); second++) {
                int[] row = h == 2 ? new int[] {0, first, second} : new int[] {0, first};
                if (isPlan(kept, row) && (best == null || Arrays.compare(row, best) < 0)) {
                    best = row;
                }
            }
        }
        return best;
    }

    private boolean isPlan(int kept, int[] row) {
        int[] renewed = renewedNow(kept);
        for (int i = 0; i + 1 < row.length; i++) {
            int t = now + i;
            if (!mayAsk(row[i + 1], t)) {
                return false;
            }
            row[0] += costOf(i == 0 ? row[1] & ~asked : row[i + 1]);
            if (!goOn(kept, renewed, row[i + 1] | (i == 0 ? asked : 0), t)) {
                return false;
            }
        }
        return true;
    }

    private int[] renewedNow(int kept) {
        int[] renewed = new int[6];
        for (int k = 0; k < 6; k++) {
            renewed[k] = (kept >> k & 1) == 1 ? boxes.get(k).renewedBy(now) : NONE;
        }
        return renewed;
    }

    /** Renews what the set renews; false if one that is kept is stale then. */
    private boolean goOn(int kept, int[] renewed, int set, int t) {
        for (int k = 0; k < 6; k++) {
            if ((kept >> k & 1) == 1) {
                if (isRenewed(boxes.get(k), set, t)) {
                    renewed[k] = t;
                }
                if (boxes.get(k).isStale(renewed[k], t)) {
                    return false;
                }
            }
        }
        return true;
    }

    private int[] search(int kept, int h) {
        return search(kept, h, 0, renewedNow(kept), new HashMap<>());
    }

    /** The best row of sets from the i-th tick on, over all 64 sets of each. */
    private int[] search(int kept, int h, int i, int[] renewed, Map<String, int[]> known) {
        if (i == h) {
            return new int[1];
        }
        String key = i + Arrays.toString(renewed);
        if (known.containsKey(key)) {
            return known.get(key);
        }
        int[] best = null;
        for (int set = 0; set < 64; set++) {
            int[] next = renewed.clone();
            if (!mayAsk(set, now + i) || !goOn(kept, next, set | (i == 0 ? asked : 0), now + i)) {
                continue;
            }
            int[] rest = search(kept, h, i + 1, next, known);
            if (rest == null) {
                continue;
            }
            int[] row = new int[rest.length + 1];
            row[0] = rest[0] + costOf(i == 0 ? set & ~asked : set);
            row[1] = set;
            System.arraycopy(rest, 1, row, 2, rest.length - 1);
            if (best == null || Arrays.compare(row, best) < 0) {
                best = row;
            }
        }
        known.put(key, best);
        return best;
    }

    int planned(int i) {
        return planSets == null || i < 0 || i >= planSets.length ? NONE : planSets[i];
    }

    int left() {
        return planSets == null ? NONE : planLeft;
    }

    int follow() {
        if (planSets == null || now < planStart || now >= planStart + planSets.length) {
            return NONE;
        }
        return ask(planSets[now - planStart]);
    }

    private static boolean overlap(int[] a, TextModel.Told one, int[] b, TextModel.Told other) {
        for (int r = a[0]; r < a[0] + one.numbers[3]; r++) {
            for (int c = a[1]; c < a[1] + one.numbers[2]; c++) {
                if (r >= b[0] && r < b[0] + other.numbers[3] && c >= b[1] && c < b[1] + other.numbers[2]) {
                    return true;
                }
            }
        }
        return false;
    }

    boolean fix(int k, int row, int column) {
        Box box = boxAt(k);
        if (box == null) {
            return false;
        }
        if (row == NONE) {
            box.fixed = null;
            return true;
        }
        if (row < 0 || row > 30 || column < 0 || column > 7 || column + box.told.numbers[2] - 1 > 7) {
            return false;
        }
        int[] spot = {row, column};
        for (Box other : boxes) {
            if (other != box && other.fixed != null && overlap(spot, box.told, other.fixed, other.told)) {
                return false;
            }
        }
        box.fixed = spot;
        return true;
    }

    int lay(int w) {
        if (w < 1 || w > 8 || boxes.isEmpty()) {
            return NONE;
        }
        List<Integer> free = new ArrayList<>();
        for (int k = 0; k < boxes.size(); k++) {
            Box box = boxes.get(k);
            if ((box.fixed == null ? 0 : box.fixed[1]) + box.told.numbers[2] > w) {
                return NONE;
            }
            if (box.fixed == null) {
                free.add(k);
            }
        }
        List<List<Integer>> orders = new ArrayList<>();
        addOrders(new ArrayList<>(), free, orders);
        long[] bestRank = null;
        for (List<Integer> order : orders) {
            int[][] spots = layIn(order, w);
            long[] rank = new long[2];
            for (int k = 0; k < spots.length; k++) {
                rank[0] = Math.max(rank[0], spots[k][0] + boxes.get(k).told.numbers[3]);
                rank[1] += (long) boxes.get(k).told.numbers[0] * spots[k][0];
            }
            if (bestRank == null || Arrays.compare(rank, bestRank) < 0) {
                bestRank = rank;
                laid = spots;
            }
        }
        return (int) bestRank[0];
    }

    private static void addOrders(List<Integer> start, List<Integer> rest, List<List<Integer>> orders) {
        if (rest.isEmpty()) {
            orders.add(start);
        }
        for (Integer k : rest) {
            List<Integer> longer = new ArrayList<>(start);
            longer.add(k);
            List<Integer> fewer = new ArrayList<>(rest);
            fewer.remove(k);
            addOrders(longer, fewer, orders);
        }
    }

    private int[][] layIn(List<Integer> order, int w) {
        int[][] spots = new int[boxes.size()][];
        for (int k = 0; k < spots.length; k++) {
            spots[k] = boxes.get(k).fixed;
        }
        for (int k : order) {
            spots[k] = firstSpot(k, spots, w);
        }
        return spots;
    }

    private int[] firstSpot(int k, int[][] spots, int w) {
        TextModel.Told told = boxes.get(k).told;
        for (int row = 0;; row++) {
            for (int column = 0; column + told.numbers[2] <= w; column++) {
                int[] spot = {row, column};
                boolean hasRoom = true;
                for (int other = 0; other < spots.length; other++) {
                    hasRoom &= spots[other] == null || !overlap(spot, told, spots[other], boxes.get(other).told);
                }
                if (hasRoom) {
                    return spot;
                }
            }
        }
    }

    int at(int k, int what) {
        return laid == null || boxAt(k) == null || what < 0 || what > 1 ? NONE : laid[k][what];
    }

    int unseen(int d, int i) {
        if (d < 1 || d > 400) {
            return NONE;
        }
        List<Integer> unseen = new ArrayList<>();
        for (int k = 0; k < boxes.size(); k++) {
            if (boxes.get(k).looks.stream().noneMatch(t -> t > now - d)) {
                unseen.add(k);
            }
        }
        return i < 0 || i >= unseen.size() ? NONE : unseen.get(i);
    }

    int count(int what) {
        int[] counts = {boxes.size(), text.lets.size(), now, facts.size(), spent, spentInAll, asked, budget,
            (int) boxes.stream().filter(box -> box.staleAt(now)).count(), tape.length()};
        return what < 0 || what >= counts.length ? NONE : counts[what];
    }
}
