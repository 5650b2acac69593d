import java.util.ArrayList;
import java.util.HashMap;
import java.util.List;
import java.util.Map;

// A second, slow crystal, written from the document alone, to compare the program with: it copies whole pots,
// goes over all ROWS for every answer, and tries every PIECE from every ROW.
final class PlainCrystal {
    static final class Row {
        int wide;
        int heat;
        int pull;
        int grown;
        boolean fault;
        final long[] in = new long[6];

        long parts(int stuff) {
            return grown == 0 ? 0 : in[stuff] * 1000000 / grown;
        }

        Row copy() {
            Row r = new Row();
            r.wide = wide;
            r.heat = heat;
            r.pull = pull;
            r.grown = grown;
            r.fault = fault;
            System.arraycopy(in, 0, r.in, 0, 6);
            return r;
        }
    }

    static final class Pot {
        PlainLaw furnace;
        PlainLaw minder;
        int grams;
        int want;
        int heat0;
        int wide0;
        int life;
        int faults;
        int[] put;
        int[] share;
        long seed;
        int wide;
        int heat;
        int pull;
        int left;
        int done;
        int state;
        long[] melt = new long[6];
        List<Row> rows = new ArrayList<>();

        Pot copy() {
            Pot p = new Pot();
            p.furnace = furnace;
            p.minder = minder;
            p.grams = grams;
            p.want = want;
            p.heat0 = heat0;
            p.wide0 = wide0;
            p.life = life;
            p.faults = faults;
            p.put = put;
            p.share = share;
            p.seed = seed;
            p.wide = wide;
            p.heat = heat;
            p.pull = pull;
            p.left = left;
            p.done = done;
            p.state = state;
            p.melt = melt.clone();
            for (Row r : rows) {
                p.rows.add(r.copy());
            }
            return p;
        }

        boolean has(int row) {
            return row >= 0 && row < rows.size();
        }

        long length() {
            return rows.stream().mapToLong(r -> r.pull).sum();
        }

        long wideAt(int row) {
            return row < 0 ? wide0 : rows.get(row).wide;
        }

        void minute() {
            int i = rows.size();
            int late = furnace.number("late");
            Map<String, Long> words = new HashMap<>();
            words.put("minute", (long) i);
            words.put("seen", wideAt(i - 1 - late));
            words.put("was", wideAt(i - 2 - late));
            words.put("want", (long) want);
            words.put("heat", (long) heat);
            words.put("pull", (long) pull);
            words.put("left", left * 1000L / grams);
            words.put("long", length());
            words.put("wide", (long) wide);
            long newPull = held(minder.first("pull", words, pull), 0, 99);
            long newHeat = held(minder.first("heat", words, heat), 0, 999);
            words.put("pull", newPull);
            words.put("heat", newHeat);
            seed = (seed * 1103515245L + 12345L) % (1L << 31);
            int swirl = furnace.number("swirl");
            long more = held(furnace.first("wide", words, 0), -9999, 9999) + seed / 65536 % (2 * swirl + 1) - swirl;
            Row row = new Row();
            row.pull = pull = (int) newPull;
            row.heat = heat = (int) newHeat;
            row.wide = wide = (int) held(wide + more, 0, 9999);
            row.grown = (int) Math.min((long) pull * wide * wide / 100000, left);
            melt[5] += furnace.number("gives");
            for (int s = 0; s < 6; s++) {
                row.in[s] = Math.min(melt[s], melt[s] * row.grown / left * share[s] / 1000);
                melt[s] -= row.in[s];
            }
            left -= row.grown;
            rows.add(row);
            done++;
            state = left == 0 ? 2 : wide == 0 ? 3 : rows.size() == 600 ? 4 : done >= life ? 5 : 1;
        }

        int grow(int n) {
            int k = 0;
            for (; k < n && state == 1; k++) {
                minute();
            }
            return k;
        }

        int melt(int m) {
            int gone = 0;
            while (rows.size() > m) {
                Row r = rows.remove(rows.size() - 1);
                left += r.grown;
                for (int s = 0; s < 6; s++) {
                    melt[s] += r.in[s];
                }
                gone++;
            }
            wide = m == 0 ? wide0 : rows.get(m - 1).wide;
            heat = m == 0 ? heat0 : rows.get(m - 1).heat;
            pull = m == 0 ? 0 : rows.get(m - 1).pull;
            state = done >= life ? 5 : 1;
            return gone;
        }

        boolean faulted(int row) {
            return rows.subList(0, row + 1).stream().anyMatch(r -> r.fault);
        }

        int faultsBehind(int row, int thin) {
            int left = faults - rows.subList(0, row + 1).stream().filter(r -> r.wide <= thin).mapToInt(r -> r.pull).sum();
            return Math.max(0, left);
        }

        boolean clean(int row, int thin) {
            return faultsBehind(row - 1, thin) == 0;
        }

        int kind(int row, int thin) {
            if (rows.get(row).wide <= thin) {
                return 0;
            }
            if (Math.abs(rows.get(row).wide - want) <= want / 10) {
                return 2;
            }
            for (int r = row - 1; r >= 0; r--) {
                if (kindAlone(r, thin) == 2) {
                    return 3;
                }
            }
            return 1;
        }

        private int kindAlone(int row, int thin) {
            return rows.get(row).wide <= thin ? 0 : Math.abs(rows.get(row).wide - want) <= want / 10 ? 2 : 1;
        }

        int wander(int from, int to) {
            int most = 0;
            for (int r = from; r <= to; r++) {
                most = Math.max(most, Math.abs(rows.get(r).wide - want));
            }
            return most;
        }

        int hunts(int from, int to) {
            StringBuilder sides = new StringBuilder();
            for (int r = from; r <= to; r++) {
                sides.append(rows.get(r).wide > want ? "a" : rows.get(r).wide < want ? "b" : "");
            }
            int many = 0;
            for (int k = 1; k < sides.length(); k++) {
                many += sides.charAt(k) != sides.charAt(k - 1) ? 1 : 0;
            }
            return many;
        }

        long[] again(int stuff, long put, int share) {
            long[] parts = new long[rows.size()];
            long m = put;
            long there = grams;
            for (int r = 0; r < parts.length; r++) {
                m += stuff == 5 ? furnace.number("gives") : 0;
                long grown = rows.get(r).grown;
                long goes = Math.min(m, m * grown / there * share / 1000);
                parts[r] = grown == 0 ? 0 : goes * 1000000 / grown;
                m -= goes;
                there -= grown;
            }
            return parts;
        }
    }

    record Want(int stuff, int low, int high, int wide, int length, int coins) {
    }

    record Piece(int first, int rows, int want, int coins) {
    }

    record Image(Pot pot, int thin, int[] put, int[] share) {
    }

    private final List<Integer> tape = new ArrayList<>();
    private final List<PlainLaw> furnaces = new ArrayList<>();
    private final List<PlainLaw> minders = new ArrayList<>();
    private int[] put = new int[6];
    private int[] share = {1000, 1000, 1000, 1000, 1000, 1000};
    private int thin = 30;
    private Pot pot = null;
    private final List<Want> wants = new ArrayList<>();
    private final List<int[]> slices = new ArrayList<>();
    private final List<int[]> rings = new ArrayList<>();
    private final Image[] images = new Image[4];

    static long held(long n, long low, long high) {
        return n < low ? low : n > high ? high : n;
    }

    private static boolean in(long n, long low, long high) {
        return low <= n && n <= high;
    }

    private boolean has(int row) {
        return pot != null && pot.has(row);
    }

    int feed(int... five) {
        if (tape.size() > 380) {
            return -1;
        }
        for (int n : five) {
            tape.addAll(List.of(n >> 24 & 255, n >> 16 & 255, n >> 8 & 255, n & 255));
        }
        return tape.size();
    }

    int end(int n) {
        if (!in(n, 0, tape.size())) {
            return -1;
        }
        tape.subList(n, tape.size()).clear();
        return n;
    }

    int furnace() {
        return text(furnaces, 4, true);
    }

    int minder() {
        return text(minders, 8, false);
    }

    private int text(List<PlainLaw> laws, int most, boolean furnace) {
        if (laws.size() == most) {
            return -1;
        }
        int[] bytes = tape.stream().mapToInt(b -> b).toArray();
        tape.clear();
        try {
            laws.add(new PlainLaw(bytes, furnace));
            return laws.size() - 1;
        } catch (PlainLaw.Fault fault) {
            return -2 - fault.number;
        }
    }

    int stuff(int stuff, int what, int n) {
        if (!in(stuff, 0, 5) || !in(what, 0, 1) || !in(n, 0, what == 0 ? 999999999 : 2000)) {
            return -1;
        }
        int[] told = (what == 0 ? put : share).clone();
        int was = told[stuff];
        told[stuff] = n;
        if (what == 0) {
            put = told;
        } else {
            share = told;
        }
        return was;
    }

    boolean begin(int furnace, int minder, int grams, int want, int heat, int wide, int seed, int life, int faults) {
        boolean good = in(furnace, 0, furnaces.size() - 1) && in(minder, 0, minders.size() - 1) && in(grams, 1, 99999)
                && in(want, 1, 9999) && in(heat, 0, 999) && in(wide, 1, 9999) && in(seed, 0, 2147483647)
                && in(life, 1, 900) && in(faults, 0, 999);
        if (!good) {
            return false;
        }
        pot = new Pot();
        pot.furnace = furnaces.get(furnace);
        pot.minder = minders.get(minder);
        pot.grams = pot.left = grams;
        pot.want = want;
        pot.heat0 = pot.heat = heat;
        pot.wide0 = pot.wide = wide;
        pot.seed = seed;
        pot.life = life;
        pot.faults = faults;
        pot.put = put;
        pot.share = share;
        pot.state = 1;
        for (int s = 0; s < 6; s++) {
            pot.melt[s] = put[s];
        }
        return true;
    }

    boolean minds(int minder) {
        if (pot == null || !in(minder, 0, minders.size() - 1)) {
            return false;
        }
        pot.minder = minders.get(minder);
        return true;
    }

    int grow(int n) {
        return pot == null || !in(n, 0, 600) ? -1 : pot.grow(n);
    }

    int state() {
        return pot == null ? 0 : pot.state;
    }

    int count(int what) {
        int[] potCounts = new int[7];
        if (pot != null) {
            potCounts = new int[] {pot.rows.size(), pot.left, pot.wide, pot.heat, pot.pull, (int) pot.length(), pot.done};
        }
        int[] others = {furnaces.size(), minders.size(), wants.size(), slices.size(), tape.size(), rings.size()};
        return in(what, 0, 6) ? potCounts[what] : in(what, 7, 12) ? others[what - 7] : -1;
    }

    int row(int row, int what) {
        if (!has(row) || !in(what, 0, 6)) {
            return -1;
        }
        Row r = pot.rows.get(row);
        int[] all = {r.wide, r.heat, r.pull, r.grown, pot.kind(row, thin), pot.clean(row, thin) ? 1 : 0, pot.faulted(row) ? 1 : 0};
        return all[what];
    }

    long much(int stuff, int row) {
        if (!in(stuff, 0, 5) || row != -1 && !has(row)) {
            return -1;
        }
        return row != -1 ? pot.rows.get(row).in[stuff] : pot == null ? 0 : pot.melt[stuff];
    }

    long parts(int stuff, int row) {
        return in(stuff, 0, 5) && has(row) ? pot.rows.get(row).parts(stuff) : -1;
    }

    int melt(int row) {
        return has(row) ? pot.melt(row) : -1;
    }

    boolean fault(int row) {
        if (!has(row) || pot.rows.get(row).fault) {
            return false;
        }
        pot.rows.get(row).fault = true;
        return true;
    }

    int thin(int n) {
        if (!in(n, 1, 9999)) {
            return -1;
        }
        int was = thin;
        thin = n;
        return was;
    }

    int faults() {
        return pot == null ? -1 : pot.faultsBehind(pot.rows.size() - 1, thin);
    }

    int holds() {
        if (pot == null) {
            return -1;
        }
        int least = pot.rows.stream().mapToInt(r -> r.wide).min().orElse(10000);
        if (least > thin) {
            return -2;
        }
        int at = 0;
        while (pot.rows.get(at).wide != least) {
            at++;
        }
        long hanging = 0;
        for (int r = at + 1; r < pot.rows.size(); r++) {
            hanging += pot.rows.get(r).grown;
            if (hanging > (long) least * least / 10) {
                return r;
            }
        }
        return -2;
    }

    private static boolean isSpan(int low, int high) {
        return in(low, 0, 1000000000) && in(high, low, 1000000000);
    }

    int want(int stuff, int low, int high, int wide, int length, int coins) {
        boolean good = wants.size() < 8 && in(stuff, 0, 5) && isSpan(low, high) && in(wide, 0, 9999) && in(length, 1, 9999)
                && in(coins, 1, 999);
        if (!good) {
            return -1;
        }
        wants.add(new Want(stuff, low, high, wide, length, coins));
        return wants.size() - 1;
    }

    private int reasons(Pot p, int row, Want w) {
        Row r = p.rows.get(row);
        return (p.clean(row, thin) ? 0 : 1) + (p.faulted(row) ? 2 : 0) + (r.wide < w.wide ? 4 : 0)
                + (r.parts(w.stuff) < w.low ? 8 : 0) + (r.parts(w.stuff) > w.high ? 16 : 0);
    }

    // All that can be done from each ROW on, tried in the order in which it is preferred.
    private List<Piece> cutOf(Pot p) {
        int n = p == null ? 0 : p.rows.size();
        boolean[][] fit = new boolean[wants.size()][n];
        for (int w = 0; w < wants.size(); w++) {
            for (int r = 0; r < n; r++) {
                fit[w][r] = reasons(p, r, wants.get(w)) == 0;
            }
        }
        int[] most = new int[n + 1];
        Piece[] does = new Piece[n];
        for (int r = n - 1; r >= 0; r--) {
            most[r] = most[r + 1];
            boolean[] still = new boolean[wants.size()];
            java.util.Arrays.fill(still, true);
            int length = 0;
            for (int e = r; e < n; e++) {
                length += p.rows.get(e).pull;
                for (int w = 0; w < wants.size(); w++) {
                    still[w] &= fit[w][e];
                    int coins = length * wants.get(w).coins;
                    if (still[w] && length >= wants.get(w).length && coins + most[e + 1] > most[r]) {
                        most[r] = coins + most[e + 1];
                        does[r] = new Piece(r, e - r + 1, w, coins);
                    }
                }
            }
        }
        List<Piece> cut = new ArrayList<>();
        for (int r = 0; r < n;) {
            if (does[r] == null) {
                r++;
            } else {
                cut.add(does[r]);
                r += does[r].rows;
            }
        }
        return cut;
    }

    private int coinsOf(Pot p) {
        return cutOf(p).stream().mapToInt(Piece::coins).sum();
    }

    int cut() {
        return coinsOf(pot);
    }

    int whose(int row) {
        if (!has(row)) {
            return -2;
        }
        return cutOf(pot).stream().filter(c -> in(row, c.first, c.first + c.rows - 1)).mapToInt(Piece::want).findFirst().orElse(-1);
    }

    int enough(int stuff, int step, int low, int high, int what) {
        if (pot == null || !in(stuff, 0, 5) || !in(step, 1, 9999999) || !isSpan(low, high) || !in(what, 0, 1)) {
            return -1;
        }
        int[] many = new int[61];
        int best = 0;
        for (int k = 0; k <= 60; k++) {
            for (long parts : pot.again(stuff, (long) k * step, pot.share[stuff])) {
                many[k] += in(parts, low, high) ? 1 : 0;
            }
            best = many[k] > many[best] ? k : best;
        }
        return what == 0 ? best : many[best];
    }

    int wander(int from, int to, int what) {
        if (!has(from) || !has(to) || from > to || !in(what, 0, 1)) {
            return -1;
        }
        return what == 0 ? pot.wander(from, to) : pot.hunts(from, to);
    }

    private int[] trial(int minder, int n, int much) {
        Pot p = pot.copy();
        p.minder = minders.get(minder);
        p.wide = (int) held(p.wide + much, 0, 9999);
        p.grow(n);
        int from = pot.rows.size();
        int to = p.rows.size() - 1;
        return new int[] {p.wander(from, to), p.hunts(from, to), to - from + 1, pot.left - p.left, p.wide};
    }

    int tried(int minder, int n, int much, int what) {
        if (pot == null || !in(minder, 0, minders.size() - 1) || !in(n, 1, 300) || !in(much, -9999, 9999) || !in(what, 0, 4)) {
            return -1;
        }
        return trial(minder, n, much)[what];
    }

    int best(int n) {
        if (state() != 1 || !in(n, 1, 300)) {
            return -1;
        }
        int best = 0;
        for (int k = 1; k < minders.size(); k++) {
            int[] a = trial(best, n, 0);
            int[] b = trial(k, n, 0);
            best = b[0] < a[0] || b[0] == a[0] && b[1] < a[1] ? k : best;
        }
        return best;
    }

    int slice(int row, int stuff, int found, int give) {
        boolean good = slices.size() < 100 && in(row, 0, 599) && in(stuff, 0, 5) && in(found, 0, 1000000000) && in(give, 0, 1000000000);
        if (!good) {
            return -1;
        }
        slices.add(new int[] {row, stuff, found, give});
        return slices.size();
    }

    int span(int stuff, int what) {
        if (pot == null || !in(stuff, 0, 5) || !in(what, 0, 2)) {
            return -1;
        }
        List<Integer> good = new ArrayList<>();
        for (int share = 0; share <= 2000; share++) {
            long[] parts = pot.again(stuff, pot.put[stuff], share);
            boolean all = true;
            for (int[] s : slices) {
                all &= s[1] != stuff || !has(s[0]) || Math.abs(parts[s[0]] - s[2]) <= s[3];
            }
            if (all) {
                good.add(share);
            }
        }
        if (what == 2) {
            return good.size();
        }
        return good.isEmpty() ? -2 : good.get(what == 0 ? 0 : good.size() - 1);
    }

    int choice(int n, int what) {
        if (pot == null || !in(n, 1, 300) || !in(what, 0, 3)) {
            return -1;
        }
        Pot goesOn = pot.copy();
        goesOn.grow(n);
        Pot melted = pot.copy();
        for (int r = 0; r < pot.rows.size(); r++) {
            if (pot.rows.get(r).fault) {
                melted.melt(r);
                break;
            }
        }
        melted.grow(n);
        int[] coins = {coinsOf(pot), coinsOf(goesOn), coinsOf(melted)};
        int best = coins[1] > coins[0] ? 1 : 0;
        return what == 0 ? (coins[2] > coins[best] ? 2 : best) : coins[what - 1];
    }

    int piece(int k, int what) {
        List<Piece> cut = cutOf(pot);
        if (k == -1) {
            return cut.size();
        }
        if (!in(k, 0, cut.size() - 1) || !in(what, 0, 3)) {
            return -1;
        }
        Piece c = cut.get(k);
        return new int[] {c.first, c.rows, c.want, c.coins}[what];
    }

    int why(int row, int want) {
        return has(row) && in(want, 0, wants.size() - 1) ? reasons(pot, row, wants.get(want)) : -1;
    }

    int stripes(int stuff, int from, int to, int many) {
        if (!in(stuff, 0, 5) || !has(from) || !has(to) || from > to || !in(many, 0, 1000000000)) {
            return -1;
        }
        int found = 0;
        for (int r = from; r < to; r++) {
            found += Math.abs(parts(stuff, r + 1) - parts(stuff, r)) > many ? 1 : 0;
        }
        return found;
    }

    int ring(int row, int seen) {
        if (rings.size() == 200 || !in(row, 0, 599) || !in(seen, -9999, 19999)) {
            return -1;
        }
        rings.add(new int[] {row, seen});
        return rings.size();
    }

    int awry(int give, int what) {
        if (!in(give, 0, 9999) || !in(what, 0, 2)) {
            return -2000;
        }
        List<Integer> good = new ArrayList<>();
        for (int c = -500; c <= 500; c++) {
            boolean all = true;
            for (int[] r : rings) {
                all &= !has(r[0]) || Math.abs(r[1] - c - pot.rows.get(r[0]).wide) <= give;
            }
            if (all) {
                good.add(c);
            }
        }
        if (what == 2) {
            return good.size();
        }
        return good.isEmpty() ? -1000 : good.get(what == 0 ? 0 : good.size() - 1);
    }

    int far(int minder, int n, int within) {
        if (state() != 1 || !in(minder, 0, minders.size() - 1) || !in(n, 1, 300) || !in(within, 0, 9999)) {
            return -1;
        }
        int m = -1;
        while (m < 100 && near(minder, n, m + 1, within) && near(minder, n, -m - 1, within)) {
            m++;
        }
        return m < 0 ? -2 : m;
    }

    private boolean near(int minder, int n, int much, int within) {
        return Math.abs(trial(minder, n, much)[4] - pot.want) <= within;
    }

    int image(int k) {
        if (!in(k, 0, 3)) {
            return -1;
        }
        images[k] = new Image(pot == null ? null : pot.copy(), thin, put, share);
        return count(0);
    }

    int back(int k) {
        if (!in(k, 0, 3) || images[k] == null) {
            return -1;
        }
        pot = images[k].pot == null ? null : images[k].pot.copy();
        thin = images[k].thin;
        put = images[k].put;
        share = images[k].share;
        return count(0);
    }
}
