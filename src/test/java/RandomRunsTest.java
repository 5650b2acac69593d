import java.util.ArrayList;
import java.util.List;
import java.util.Random;

// Many runs of calls, the same at every start, of which each is answered by the program and by PlainCrystal.
public final class RandomRunsTest {
    private static final String[] FURNACES = {
        "wide (500 - heat) / 4", "wide want - wide;swirl 40", "wide 30 if minute < 20; wide (500 - heat) / 5 - pull; swirl 9;late 2",
        "wide (want - seen) / 3 ; gives 999; late 1", "wide (want - wide) / 2 if minute > 5; wide 0 - wide if left < 300; swirl 99",
        "late 9; gives 5000", "wide 7 * pull - heat / 10; swirl 25;late 3 ;gives 1", "wide 5 if not [wide > want or minute = 3]; wide 0-5",
        "wide (was - seen) * 2 + heat - 300 if long / 7 * 7 = long;swirl 60", "wide 9999 if minute=4; wide 0 - 9999 if minute = 6",
    };
    private static final String[] MINDERS = {
        "pull 9", "pull 10;heat 500 + want - seen", "pull 5 + minute / 10; heat heat + (seen - want) / 8",
        "pull 20 if seen > want; pull 3;heat 400 + (seen - was) * 3", "pull 99", "pull 1 if minute < 10; pull 30; heat 999 if seen < want;heat 0",
        "heat 500 - left / 10", "pull (left + 99) / 100; heat long", "pull 0 if minute / 5 * 5 = minute; pull 12", "pull 7;heat 480",
    };

    private final Random random;
    private final PulledCrystal x = new PulledCrystal();
    private final PlainCrystal y = new PlainCrystal();
    private final List<String> calls = new ArrayList<>();
    private boolean same = true;

    private RandomRunsTest(long seed) {
        random = new Random(seed);
    }

    public static void main(String[] args) {
        int runs = args.length > 0 ? Integer.parseInt(args[0]) : 400;
        int first = args.length > 1 ? Integer.parseInt(args[1]) : 0;
        int answers = 0;
        for (int seed = first; seed < first + runs; seed++) {
            RandomRunsTest run = new RandomRunsTest(seed);
            answers += run.go();
            if (!run.same) {
                System.out.println("run " + seed + ":");
                run.calls.forEach(System.out::println);
                System.exit(1);
            }
        }
        System.out.println("RandomRunsTest: " + runs + " runs, " + answers + " answers, all the same");
    }

    private int go() {
        if (random.nextInt(3) == 0) {
            for (int k = 0; k < 40 && same; k++) {
                randomText();
            }
        }
        boolean stocked = random.nextInt(10) != 0;
        for (int k = 0; k < 3 && same && stocked; k++) {
            text(true, pick(FURNACES));
            text(false, pick(MINDERS));
            text(false, random.nextBoolean() ? pick(MINDERS) : grammar(false));
        }
        if (stocked) {
            stuffs();
            for (int k = 0; k < 5 && y.state() == 0; k++) {
                begin();
            }
            grow();
        }
        int size = 20 + random.nextInt(300);
        while (calls.size() < size && same) {
            anyCall();
        }
        return calls.size();
    }

    private void due(String call, long got, long due) {
        calls.add(call + " answered " + got + ", plainly " + due);
        same &= got == due;
    }

    private static long n(boolean b) {
        return b ? 1 : 0;
    }

    private String pick(String[] of) {
        return of[random.nextInt(of.length)];
    }

    // Mostly from low to high, now and then just beside or far away.
    private int about(int low, int high) {
        switch (random.nextInt(100)) {
            case 0: return low - 1;
            case 1: return high == Integer.MAX_VALUE ? Integer.MIN_VALUE : high + 1;
            case 2: return low;
            case 3: return high;
            case 4: return random.nextInt();
            default: return (int) (low + (long) (random.nextDouble() * ((double) high - low + 1)));
        }
    }

    private int row() {
        return about(0, Math.max(0, y.count(0) - 1));
    }

    private void text(boolean furnace, String text) {
        for (int at = 0; at < text.length(); at += 20) {
            int[] five = new int[5];
            for (int k = 0; k < 20; k++) {
                five[k / 4] = five[k / 4] << 8 | (at + k < text.length() ? text.charAt(at + k) : random.nextInt(256));
            }
            due("feed", x.feed(five[0], five[1], five[2], five[3], five[4]), y.feed(five));
        }
        due("end " + text.length(), x.end(text.length()), y.end(text.length()));
        if (furnace) {
            due("furnace of " + text, x.furnace(), y.furnace());
        } else {
            due("minder of " + text, x.minder(), y.minder());
        }
    }

    private void randomText() {
        boolean furnace = random.nextBoolean();
        StringBuilder text = new StringBuilder(random.nextInt(3) == 0 ? pick(furnace ? FURNACES : MINDERS) : grammar(furnace));
        String signs = " ;()[]+-*/<=>0123456789abwid\u0000\u00ff";
        String[] words = {"if", "not ", "((((((((((", "[ [[[ [[[[[[", "not[not[not[not[not[", "(1)", " and ", " or ", "wide", "swirl 1", "late", "gives 12", "pull", "heat", "(", "[", "123456", "99999"};
        for (int k = random.nextInt(4); k > 0 && text.length() > 0; k--) {
            int at = random.nextInt(text.length());
            switch (random.nextInt(4)) {
                case 0: text.deleteCharAt(at); break;
                case 1: text.insert(at, signs.charAt(random.nextInt(signs.length()))); break;
                case 2: text.insert(at, pick(words)); break;
                default: text.setCharAt(at, signs.charAt(random.nextInt(signs.length()))); break;
            }
        }
        text.setLength(Math.min(400, text.length()));
        text(furnace, text.toString());
    }

    private String grammar(boolean furnace) {
        StringBuilder text = new StringBuilder();
        int most = random.nextInt(8) == 0 ? 14 : 3;
        for (int k = 1 + random.nextInt(most); k > 0; k--) {
            int kind = random.nextInt(6);
            if (furnace && kind >= 3) {
                text.append(kind == 3 ? "swirl " : kind == 4 ? "late " : "gives ").append(random.nextInt(kind == 3 ? 105 : kind == 4 ? 11 : 10010));
            } else {
                int deep = random.nextInt(6) == 0 ? 9 : 2;
                text.append(furnace ? "wide " : random.nextInt(3) > 0 ? "pull " : "heat ").append(sum(furnace, deep));
                text.append(random.nextBoolean() ? " if " + test(furnace, deep) : "");
            }
            text.append(k > 1 ? random.nextBoolean() ? ";" : " ; " : "");
        }
        return text.substring(0, Math.min(400, text.length()));
    }

    private String sum(boolean furnace, int deep) {
        String all = term(furnace, deep);
        for (int k = random.nextInt(3); k > 1 || k == 1 && random.nextBoolean(); k--) {
            all += (random.nextBoolean() ? "+" : " - ") + term(furnace, deep);
        }
        return all;
    }

    private String term(boolean furnace, int deep) {
        String all = value(furnace, deep);
        for (int k = random.nextInt(3); k > 1; k--) {
            all += (random.nextBoolean() ? "*" : " / ") + value(furnace, deep);
        }
        return all;
    }

    private String value(boolean furnace, int deep) {
        String[] words = {"minute", "seen", "was", "want", "heat", "pull", "left", "long", "wide"};
        if (deep > 0 && random.nextInt(4) == 0) {
            int k = random.nextInt(12) == 0 ? 7 + random.nextInt(4) : 1;
            return "(".repeat(k) + sum(furnace, deep - 1) + ")".repeat(k);
        }
        if (random.nextInt(3) == 0) {
            int digits = random.nextInt(40) == 0 ? 6 : 1 + random.nextInt(5);
            return "000123456".substring(random.nextInt(4), 4 + random.nextInt(2)) + Integer.toString(random.nextInt(10)).repeat(Math.max(0, digits - 4));
        }
        return words[random.nextInt(furnace || random.nextInt(50) == 0 ? 9 : 8)];
    }

    private String test(boolean furnace, int deep) {
        String all = fact(furnace, deep);
        for (int k = random.nextInt(3); k > 0; k--) {
            all += (random.nextBoolean() ? " and " : " or ") + fact(furnace, deep);
        }
        return all;
    }

    private String fact(boolean furnace, int deep) {
        if (deep > 0 && random.nextInt(3) == 0) {
            int k = random.nextInt(12) == 0 ? 7 + random.nextInt(4) : 1;
            return random.nextBoolean() ? "not ".repeat(k) + fact(furnace, deep - 1) : "[".repeat(k) + test(furnace, deep - 1) + "]".repeat(k);
        }
        return sum(furnace, deep) + pick(new String[] {"<", "<=", "=", ">=", ">", " < "}) + sum(furnace, deep);
    }

    private void stuffs() {
        for (int s = 0; s < 6; s++) {
            int put = about(0, random.nextBoolean() ? 999999999 : 100000);
            int share = about(0, 2000);
            due("stuff " + s + " 0 " + put, x.stuff(s, 0, put), y.stuff(s, 0, put));
            due("stuff " + s + " 1 " + share, x.stuff(s, 1, share), y.stuff(s, 1, share));
        }
    }

    private void begin() {
        int f = about(0, Math.max(0, y.count(7) - 1));
        int m = about(0, Math.max(0, y.count(8) - 1));
        int grams = random.nextBoolean() ? about(1, 99999) : about(90000, 99999);
        int want = random.nextInt(6) == 0 ? about(1, 9999) : about(200, 900);
        int heat = about(0, 999);
        int wide = random.nextInt(6) == 0 ? about(1, 9999) : random.nextBoolean() ? about(1, 900) : about(1, 60);
        int seed = about(0, Integer.MAX_VALUE);
        int life = random.nextInt(4) == 0 ? about(1, 60) : about(1, 900);
        int faults = random.nextInt(4) == 0 ? about(0, 999) : random.nextBoolean() ? 0 : random.nextInt(60);
        due("begin " + f + " " + m + " " + grams + " " + want + " " + heat + " " + wide + " " + seed + " " + life + " " + faults,
                n(x.begin(f, m, grams, want, heat, wide, seed, life, faults)), n(y.begin(f, m, grams, want, heat, wide, seed, life, faults)));
    }

    private void grow() {
        int n = random.nextInt(15) == 0 ? about(0, 600) : about(0, 40);
        due("grow " + n, x.grow(n), y.grow(n));
        due("state", x.state(), y.state());
    }

    private void anyCall() {
        int kind = random.nextInt(y.state() == 1 ? 40 : 55) % 41;
        if (kind < 14) {
            change(kind);
        } else if (kind < 27) {
            look(kind);
        } else {
            ask(kind);
        }
    }

    private void change(int kind) {
        int a;
        switch (kind) {
            case 0: case 1: case 2: grow(); break;
            case 3: if (random.nextInt(y.state() == 1 ? 20 : 2) == 0) { begin(); } break;
            case 4: a = about(0, Math.max(0, y.count(8) - 1)); due("minds " + a, n(x.minds(a)), n(y.minds(a))); break;
            case 5: a = random.nextInt(3) == 0 ? row() : y.count(0) - 1 - random.nextInt(5); due("melt " + a, x.melt(a), y.melt(a)); break;
            case 6: a = random.nextInt(9) == 0 ? row() : y.count(0) - 1 - random.nextInt(3); due("fault " + a, n(x.fault(a)), n(y.fault(a))); break;
            case 7: a = random.nextInt(9) == 0 ? about(1, 9999) : about(1, 300); due("thin " + a, x.thin(a), y.thin(a)); break;
            case 8: case 9: want(); break;
            case 10: slice(); break;
            case 11: ring(); break;
            case 12: a = about(0, 3); due("image " + a, x.image(a), y.image(a)); break;
            default: if (random.nextInt(3) == 0) { back(); } break;
        }
        if (random.nextInt(30) == 0) {
            stuffs();
        }
        if (random.nextInt(60) == 0) {
            randomText();
        }
    }

    private void back() {
        int k = about(0, 3);
        due("back " + k, x.back(k), y.back(k));
    }

    private void want() {
        int s = about(0, 5);
        int low = random.nextInt(3) > 0 ? 0 : (int) (y.parts(Math.floorMod(s, 6), row()) + about(-5, 5));
        int high = random.nextInt(3) > 0 ? 1000000000 : low + about(0, 100000);
        int wide = random.nextBoolean() ? 0 : random.nextInt(9) > 0 ? about(0, 700) : about(0, 9999);
        int length = random.nextInt(9) > 0 ? about(1, 100) : about(1, 9999);
        int coins = random.nextBoolean() ? about(1, 5) : about(1, 999);
        due("want " + s + " " + low + " " + high + " " + wide + " " + length + " " + coins,
                x.want(s, low, high, wide, length, coins), y.want(s, low, high, wide, length, coins));
    }

    private void slice() {
        int row = random.nextInt(6) == 0 ? about(0, 599) : row();
        int s = about(0, 5);
        int found = (int) Math.max(random.nextInt(30) == 0 ? -1 : 0, y.parts(Math.floorMod(s, 6), row) + about(-300, 300));
        int give = random.nextBoolean() ? about(0, 1000) : about(0, 1000000000);
        due("slice " + row + " " + s + " " + found + " " + give, x.slice(row, s, found, give), y.slice(row, s, found, give));
    }

    private void ring() {
        int row = random.nextInt(6) == 0 ? about(0, 599) : row();
        int seen = random.nextInt(9) == 0 ? about(-9999, 19999) : y.row(row, 0) + about(-100, 100);
        due("ring " + row + " " + seen, x.ring(row, seen), y.ring(row, seen));
    }

    private void look(int kind) {
        int row = row();
        int s = about(0, 5);
        int what;
        switch (kind) {
            case 14: what = about(0, 12); due("count " + what, x.count(what), y.count(what)); break;
            case 15: case 16: case 17: what = about(0, 6); due("row " + row + " " + what, x.row(row, what), y.row(row, what)); break;
            case 18: due("much " + s + " " + row, x.much(s, row), y.much(s, row)); break;
            case 19: due("melt's much " + s, x.much(s, -1), y.much(s, -1)); break;
            case 20: due("parts " + s + " " + row, x.parts(s, row), y.parts(s, row)); break;
            case 21: due("faults", x.faults(), y.faults()); break;
            case 22: due("holds", x.holds(), y.holds()); break;
            case 23: due("cut", x.cut(), y.cut()); break;
            case 24: due("whose " + row, x.whose(row), y.whose(row)); break;
            case 25: what = about(0, 7); due("why " + row + " " + what, x.why(row, what), y.why(row, what)); break;
            default:
                int k = random.nextInt(9) == 0 ? -1 : about(0, Math.max(1, y.piece(-1, 0)) - 1);
                what = about(0, 3);
                due("piece " + k + " " + what, x.piece(k, what), y.piece(k, what));
                break;
        }
    }

    private void ask(int kind) {
        int s = about(0, 5);
        int n = random.nextInt(6) == 0 ? about(1, 300) : about(1, 30);
        int m = about(0, Math.max(0, y.count(8) - 1));
        int what = about(0, 2);
        switch (kind) {
            case 27: enough(s); break;
            case 28: case 29: wander(); break;
            case 30: case 31: tried(m, n); break;
            case 32: due("best " + n, x.best(n), y.best(n)); break;
            case 33: case 34: due("span " + s + " " + what, x.span(s, what), y.span(s, what)); break;
            case 35: case 36: what = about(0, 3); due("choice " + n + " " + what, x.choice(n, what), y.choice(n, what)); break;
            case 37: stripes(s); break;
            case 38: int give = random.nextBoolean() ? about(0, 200) : about(0, 9999); due("awry " + give + " " + what, x.awry(give, what), y.awry(give, what)); break;
            default: far(m, n); break;
        }
    }

    private void enough(int s) {
        int step = random.nextBoolean() ? about(1, 9999999) : about(1, 5000);
        int low = (int) Math.max(0, y.parts(Math.floorMod(s, 6), row()) + about(-300, 300));
        int high = low + about(0, 1000000);
        int what = about(0, 1);
        due("enough " + s + " " + step + " " + low + " " + high + " " + what, x.enough(s, step, low, high, what), y.enough(s, step, low, high, what));
    }

    private void wander() {
        int a = row();
        int b = row();
        int what = about(0, 1);
        boolean ordered = random.nextInt(8) != 0;
        int from = ordered ? Math.min(a, b) : a;
        int to = ordered ? Math.max(a, b) : b;
        due("wander " + from + " " + to + " " + what, x.wander(from, to, what), y.wander(from, to, what));
    }

    private void tried(int m, int n) {
        int much = random.nextBoolean() ? about(-9999, 9999) : about(-50, 50);
        int what = about(0, 4);
        due("tried " + m + " " + n + " " + much + " " + what, x.tried(m, n, much, what), y.tried(m, n, much, what));
    }

    private void stripes(int s) {
        int a = row();
        int b = row();
        int many = random.nextBoolean() ? about(0, 1000000000) : about(0, 3000);
        due("stripes " + s + " " + a + " " + b + " " + many, x.stripes(s, a, b, many), y.stripes(s, a, b, many));
    }

    private void far(int m, int n) {
        int within = random.nextBoolean() ? about(0, 9999) : about(0, 200);
        due("far " + m + " " + n + " " + within, x.far(m, n, within), y.far(m, n, within));
    }
}
