import java.util.ArrayList;
import java.util.HashSet;
import java.util.List;
import java.util.Set;
import java.util.regex.Matcher;
import java.util.regex.Pattern;

/**
 * The document a second time, by other means than the class: steps in place of formulas, a pattern in place of a
 * reader, a search for the walk act by act in place of sets.
 */
final class Model {
    static final int UNKNOWN = -1, OUTSIDE = -2, STATE = -3, FULL = -4, NONE = -9;

    private static final Pattern TEXT = Pattern.compile(textPattern());

    private static final class Walker {
        char letter;
        int start;
        int stride;
    }

    private static final class Row {
        int lane;
        int[] cells;
    }

    private List<Walker> walkers = new ArrayList<>();
    private int[] goods = new int[0];
    private final List<int[]> seen = new ArrayList<>();
    private final Row[] rows = new Row[4];
    private int trace = 0;
    private int fault = 0;

    private static String textPattern() {
        StringBuilder all = new StringBuilder();
        for (int z = 3; z <= 9; z++) {
            all.append(z == 3 ? "" : "|");
            all.append("z" + z + "(?:;[smr][0-" + (z - 1) + "][0-3]){1,4}/[0-9]{" + z + "}");
        }
        return all.toString();
    }

    private int came(int which) {
        fault = which;
        return -10 - which;
    }

    private static boolean sheetIs(int k) {
        return k >= 0 && k <= 3;
    }

    private static boolean laneIs(int lane) {
        return lane >= 0 && lane <= 2;
    }

    private boolean placeIs(int p) {
        return p >= 0 && p < goods.length;
    }

    private boolean walkerIs(int a) {
        return a >= 0 && a < walkers.size();
    }

    private static boolean minuteIs(int minute) {
        return minute >= 0 && minute <= 60;
    }

    private int cellsFault(Row row, long i, long n) {
        return i < 0 || n < 0 || i + n > row.cells.length || i > row.cells.length ? 3 : 0;
    }

    int town(int sheet, int lane, int i, int n) {
        fault = 0;
        if (!sheetIs(sheet)) return UNKNOWN;
        if (!laneIs(lane)) return OUTSIDE;
        Row row = rows[sheet];
        if (row != null && row.lane != lane) return came(2);
        if (row == null) return came(1);
        if (n < 0) return came(4);
        if (cellsFault(row, i, n) != 0) return came(3);
        StringBuilder text = new StringBuilder();
        for (int k = 0; k < n; k++) {
            int code = row.cells[i + k];
            text.append(code > 0 && code < 127 ? (char) code : '?');
            Matcher matcher = TEXT.matcher(text);
            if (!matcher.matches() && !matcher.hitEnd()) return -100 - k;
        }
        if (!TEXT.matcher(text).matches()) return -100 - n;
        take(text.toString());
        return walkers.size();
    }

    private void take(String text) {
        String[] halves = text.split("/");
        String[] parts = halves[0].split(";");
        walkers = new ArrayList<>();
        for (int k = 1; k < parts.length; k++) {
            Walker walker = new Walker();
            walker.letter = parts[k].charAt(0);
            walker.start = parts[k].charAt(1) - '0';
            walker.stride = parts[k].charAt(2) - '0';
            walkers.add(walker);
        }
        goods = halves[1].chars().map(code -> code - '0').toArray();
        seen.clear();
    }

    int ofSleeper(int a, int what) {
        if (!walkerIs(a)) return UNKNOWN;
        Walker walker = walkers.get(a);
        if (what == 0) return "smr".indexOf(walker.letter);
        if (what == 1) return walker.start;
        return what == 2 ? walker.stride : OUTSIDE;
    }

    int goods(int p) {
        return placeIs(p) ? goods[p] : UNKNOWN;
    }

    int lay(int p, int v) {
        if (!placeIs(p)) return UNKNOWN;
        if (v < 0 || v > 9) return OUTSIDE;
        int was = goods[p];
        goods[p] = v;
        return was;
    }

    int stride(int a, int v) {
        if (!walkerIs(a)) return UNKNOWN;
        if (v < 0 || v > 3) return OUTSIDE;
        int was = walkers.get(a).stride;
        walkers.get(a).stride = v;
        return was;
    }

    /** Step by step, MINUTE by MINUTE. */
    private int at(char letter, int start, int stride, int minute) {
        int p = start;
        for (int m = 0; m < minute; m++) {
            int steps = letter == 's' ? stride : stride + 1;
            if (letter == 'r') steps = m % 2 == 0 ? steps + steps : 0;
            for (int k = 0; k < steps; k++) {
                p = p == goods.length - 1 ? 0 : p + 1;
            }
        }
        return p;
    }

    private int at(Walker walker, int minute) {
        return at(walker.letter, walker.start, walker.stride, minute);
    }

    private boolean freeOf(List<Walker> some, int p, int minute) {
        for (Walker walker : some) {
            if (at(walker, minute) == p) return false;
        }
        return true;
    }

    int where(int a, int minute) {
        if (!walkerIs(a)) return UNKNOWN;
        return minuteIs(minute) ? at(walkers.get(a), minute) : OUTSIDE;
    }

    int taken(int a, int minute) {
        if (!walkerIs(a)) return UNKNOWN;
        if (!minuteIs(minute)) return OUTSIDE;
        int[] left = goods.clone();
        int[] got = new int[walkers.size()];
        for (int m = 0; m <= minute; m++) {
            for (int p = 0; p < left.length; p++) {
                for (int b = walkers.size() - 1, first = NONE; b >= 0; b--) {
                    if (at(walkers.get(b), m) == p) first = b;
                    if (b == 0 && first != NONE) {
                        got[first] += left[p];
                        left[p] = 0;
                    }
                }
            }
        }
        return got[a];
    }

    int free(int minute) {
        if (!minuteIs(minute)) return OUTSIDE;
        if (goods.length == 0) return STATE;
        int set = 0;
        for (int p = 0; p < goods.length; p++) {
            if (freeOf(walkers, p, minute)) set += 1 << p;
        }
        return set;
    }

    int meet(int a, int b) {
        if (!walkerIs(a) || !walkerIs(b) || a == b) return UNKNOWN;
        int minute = 0;
        while (minute <= 60 && at(walkers.get(a), minute) != at(walkers.get(b), minute)) minute++;
        return minute <= 60 ? minute : NONE;
    }

    private int acted(int p, int act) {
        if (act == 1) return p + 1 == goods.length ? 0 : p + 1;
        if (act == 2) return p == 0 ? goods.length - 1 : p - 1;
        return p;
    }

    int walk(int p, int sheet, int lane, int i, int n, int what) {
        fault = 0;
        if (!placeIs(p) || !sheetIs(sheet)) return UNKNOWN;
        if (!laneIs(lane) || n < 0 || n > 40 || what < 0 || what > 3) return OUTSIDE;
        if (!freeOf(walkers, p, 0)) return STATE;
        Row row = rows[sheet];
        if (row != null && row.lane != lane) return came(2);
        if (row == null) return came(1);
        if (cellsFault(row, i, n) != 0) return came(3);
        List<Integer> acts = new ArrayList<>();
        for (int k = i; k < i + n; k++) acts.add(row.cells[k]);
        for (int act : acts) {
            if (act < 0 || act > 2) return OUTSIDE;
        }
        List<Integer> way = new ArrayList<>();
        way.add(p);
        for (int act : acts) way.add(acted(way.get(way.size() - 1), act));
        for (int k = 0; k < n; k++) {
            if (!freeOf(walkers, way.get(k + 1), k + 1)) return what == 1 ? k : -100 - k;
        }
        if (what == 0) return way.get(n);
        if (what == 1) return NONE;
        if (what == 3) return (int) acts.stream().filter(act -> act == 0).count();
        return way.stream().distinct().mapToInt(q -> 1 << q).sum();
    }

    /** The first WALK, as a row, that comes there in the fewest MINUTES; null if none does in 60. */
    private List<Integer> firstWalk(List<Walker> some, int from, int to) {
        for (int length = 0; length <= 60; length++) {
            List<Integer> acts = new ArrayList<>();
            if (search(some, from, to, 0, length, acts, new HashSet<>())) return acts;
        }
        return null;
    }

    private boolean search(List<Walker> some, int p, int to, int m, int length, List<Integer> acts, Set<Integer> dead) {
        if (m == length) return p == to;
        if (dead.contains(m * 10 + p)) return false;
        for (int act = 0; act < 3; act++) {
            int next = acted(p, act);
            if (!freeOf(some, next, m + 1)) continue;
            acts.add(act);
            if (search(some, next, to, m + 1, length, acts, dead)) return true;
            acts.remove(acts.size() - 1);
        }
        dead.add(m * 10 + p);
        return false;
    }

    int soonest(int from, int to, int k) {
        if (!placeIs(from) || !placeIs(to)) return UNKNOWN;
        if (k < -1 || k > 59) return OUTSIDE;
        if (!freeOf(walkers, from, 0)) return STATE;
        List<Integer> acts = firstWalk(walkers, from, to);
        if (acts == null) return NONE;
        if (k == -1) return acts.size();
        return k < acts.size() ? acts.get(k) : NONE;
    }

    int steer(int a, int p, int minute) {
        if (!walkerIs(a) || !placeIs(p)) return UNKNOWN;
        if (!minuteIs(minute)) return OUTSIDE;
        Walker walker = walkers.get(a);
        for (int off = 0; off <= 3; off++) {
            for (int v : new int[] {walker.stride - off, walker.stride + off}) {
                if (v >= 0 && v <= 3 && at(walker.letter, walker.start, v, minute) == p) return v;
            }
        }
        return NONE;
    }

    int guard() {
        if (goods.length == 0) return STATE;
        int[] comers = new int[goods.length];
        for (Walker walker : walkers) {
            Set<Integer> visited = new HashSet<>();
            for (int m = 0; m <= 60; m++) visited.add(at(walker, m));
            for (int p : visited) comers[p]++;
        }
        int best = comers.length - 1;
        for (int p = best; p >= 0; p--) {
            if (comers[p] >= comers[best]) best = p;
        }
        return best;
    }

    int reading(int a, int minute, int p) {
        if (!walkerIs(a) || !placeIs(p)) return UNKNOWN;
        if (!minuteIs(minute)) return OUTSIDE;
        if (seen.size() == 8) return FULL;
        seen.add(new int[] {a, minute, p});
        return seen.size() - 1;
    }

    int back(int k) {
        if (k < 0 || k > seen.size()) return OUTSIDE;
        for (int n = 0; n < k; n++) seen.remove(seen.size() - 1);
        return seen.size();
    }

    private boolean allSeenAreSo() {
        return seen.stream().allMatch(s -> at(walkers.get(s[0]), s[1]) == s[2]);
    }

    int strides(int a) {
        if (!walkerIs(a)) return UNKNOWN;
        Walker walker = walkers.get(a);
        int was = walker.stride;
        int set = 0;
        for (walker.stride = 0; walker.stride < 4; walker.stride++) {
            if (allSeenAreSo()) set += 1 << walker.stride;
        }
        walker.stride = was;
        return set;
    }

    int kinds(int a) {
        if (!walkerIs(a)) return UNKNOWN;
        Walker walker = walkers.get(a);
        char was = walker.letter;
        int set = 0;
        for (int kind = 0; kind < 3; kind++) {
            walker.letter = "smr".charAt(kind);
            if (allSeenAreSo()) set += 1 << kind;
        }
        walker.letter = was;
        return set;
    }

    int starts(int a) {
        if (!walkerIs(a)) return UNKNOWN;
        Walker walker = walkers.get(a);
        int was = walker.start;
        int set = 0;
        for (walker.start = 0; walker.start < goods.length; walker.start++) {
            if (allSeenAreSo()) set += 1 << walker.start;
        }
        walker.start = was;
        return set;
    }

    long odds(int from, int to, int n, int which) {
        if (!placeIs(from) || !placeIs(to) || !minuteIs(n) || which < 0 || which > 1) return Long.MIN_VALUE;
        int good = 0;
        int all = 1 << walkers.size();
        for (int bits = 0; bits < all; bits++) {
            List<Walker> some = new ArrayList<>();
            for (int a = 0; a < walkers.size(); a++) {
                if ((bits >> a & 1) == 1) some.add(walkers.get(a));
            }
            if (!freeOf(some, from, 0)) continue;
            List<Integer> acts = firstWalk(some, from, to);
            if (acts != null && acts.size() <= n) good++;
        }
        int divisor = greatestDivisor(good, all);
        return which == 0 ? good / divisor : all / divisor;
    }

    private static int greatestDivisor(int a, int b) {
        return b == 0 ? a : greatestDivisor(b, a % b);
    }

    int sheet(int k, int lane, int n) {
        fault = 0;
        if (!sheetIs(k)) return UNKNOWN;
        if (!laneIs(lane) || n > 60) return OUTSIDE;
        if (n < 0) return came(4);
        rows[k] = new Row();
        rows[k].lane = lane;
        rows[k].cells = new int[n];
        return 1;
    }

    int lose(int k) {
        if (!sheetIs(k)) return UNKNOWN;
        int had = rows[k] == null ? 0 : 1;
        rows[k] = null;
        return had;
    }

    int put(int k, int i, int v) {
        fault = 0;
        if (!sheetIs(k)) return UNKNOWN;
        if (rows[k] == null) return came(1);
        if (cellsFault(rows[k], i, 1) != 0) return came(3);
        int bits = 8 << rows[k].lane;
        rows[k].cells[i] = v << 32 - bits >> 32 - bits;
        return 1;
    }

    long cell(int k, int i, int lane) {
        fault = 0;
        if (!sheetIs(k) || !laneIs(lane)) return Long.MIN_VALUE;
        if (rows[k] == null) fault = 1;
        else if (rows[k].lane != lane) fault = 2;
        else if (cellsFault(rows[k], i, 1) != 0) fault = 3;
        return fault == 0 ? rows[k].cells[i] : Long.MIN_VALUE;
    }

    int copy(int k, int i, int other, int j, int n) {
        fault = 0;
        if (!sheetIs(k) || !sheetIs(other)) return UNKNOWN;
        if (rows[k] == null || rows[other] == null) return came(1);
        if (rows[k].lane != rows[other].lane) return came(2);
        if (cellsFault(rows[k], i, n) != 0 || cellsFault(rows[other], j, n) != 0) return came(3);
        int[] were = rows[k].cells.clone();
        for (int c = 0; c < n; c++) rows[other].cells[j + c] = were[i + c];
        return n;
    }

    private void leave(int... bodies) {
        for (int body : bodies) trace = 31 * trace + body;
    }

    int tell(int a) {
        if (!walkerIs(a)) return UNKNOWN;
        int stride = walkers.get(a).stride;
        switch (walkers.get(a).letter) {
            case 's': leave(1); return stride;
            case 'm': leave(2, 1); return stride + 100;
            default: leave(3, 2, 1, 1); return stride + stride + 100;
        }
    }

    int waken(int a) {
        if (!walkerIs(a)) return UNKNOWN;
        boolean restless = walkers.get(a).letter == 'r';
        leave(restless ? 5 : 4);
        return restless ? 90 : a;
    }

    int as(int a, int kind) {
        fault = 0;
        if (!walkerIs(a)) return UNKNOWN;
        if (kind < 0 || kind > 2) return OUTSIDE;
        return kind <= "smr".indexOf(walkers.get(a).letter) ? 1 : came(2);
    }

    int trace() {
        return trace;
    }

    int fault() {
        return fault;
    }

    int many(int what) {
        if (what == 0) return walkers.size();
        if (what == 1) return goods.length;
        if (what == 2) return java.util.Arrays.stream(goods).sum();
        return what == 3 ? seen.size() : OUTSIDE;
    }
}
