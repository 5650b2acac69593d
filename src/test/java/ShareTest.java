// Promises 23, 27, 28: enough, slice, span.
public final class ShareTest {
    private static final int ALL = 1000000000;

    public static void main(String[] args) {
        enough();
        enoughOfStuffFive();
        withoutRows();
        wrongEnough();
        slices();
        span();
        spanOfSeveral();
        spanOfStuffFive();
        spanOverMeltedBack();
        wrongSpan();
        Due.done("ShareTest");
    }

    // Ten ROWS of 10 grams out of 1000, then one without GROWN.
    private static PulledCrystal tenRows(int stuff, int put, int share, String gives) {
        PulledCrystal x = Due.with("wide 0" + gives, "pull 10 if minute < 10;pull 0");
        x.stuff(stuff, 0, put);
        x.stuff(stuff, 1, share);
        x.begin(0, 0, 1000, 70, 5, 320, 0, 900, 0);
        x.grow(11);
        Due.is("GROWN", x.row(9, 3), 10);
        Due.is("GROWN", x.row(10, 3), 0);
        return x;
    }

    private static void enough(PulledCrystal x, int stuff, int step, int low, int high, int k, int rows) {
        String call = "enough " + stuff + " " + step + " " + low + " " + high + " ";
        Due.is(call + 0, x.enough(stuff, step, low, high, 0), k);
        Due.is(call + 1, x.enough(stuff, step, low, high, 1), rows);
    }

    private static void enough() {
        PulledCrystal x = tenRows(1, 777, 1000, "");
        // with 1000 of it 10 go into each ROW: a million parts; it is 990 of 990 grams then, and so on
        enough(x, 1, 100, 1000000, 1000000, 10, 10);
        enough(x, 1, 100, 1000000, 1100000, 10, 10);
        enough(x, 1, 100, 1000001, 1100000, 11, 10);
        enough(x, 1, 100, 1000001, 1099999, 0, 0);
        enough(x, 1, 100, 0, 0, 0, 11);
        enough(x, 1, 1, 0, 0, 0, 11);
        enough(x, 1, 100, 1, ALL, 1, 10);
        enough(x, 1, 100, 5900000, 6000000, 59, 10);
        enough(x, 1, 100, 5900001, 6000000, 60, 10);
        enough(x, 1, 100, 6000001, ALL, 0, 0);
        enough(x, 1, 9999999, 500000000, 510000000, 0, 0);
        Due.is("of STUFF 2, as if it were put in", x.enough(2, 1000, 1000000, 1000000, 0), 1);
        x = tenRows(1, 777, 500, "");
        // 50, half of 100, of 100, of 101, of 101; then 51 four times, then 52
        enough(x, 1, 1000, 5000000, 5000000, 10, 4);
        enough(x, 1, 1000, 5000000, 5100000, 10, 8);
        Due.is("it is as it was", x.much(1, 0), 3);
    }

    private static void enoughOfStuffFive() {
        PulledCrystal x = tenRows(5, 0, 1000, ";gives 100");
        // without any there are 100 * 10 / 1000 = 1, then (99 + 100) * 10 / 990 = 2, then 3 and so on
        enough(x, 5, 1, 100000, 100000, 0, 1);
        enough(x, 5, 100, 100000, 1000000, 0, 10);
        enough(x, 5, 100, 1000000, 1000000, 0, 1);
        enough(x, 5, 100, 1100000, 1200000, 2, 2);
        enough(x, 4, 100, 1000000, 1200000, 10, 10);
    }

    private static void withoutRows() {
        PulledCrystal x = Due.with("wide 0", "pull 10");
        x.begin(0, 0, 1000, 70, 5, 320, 0, 900, 0);
        enough(x, 0, 1, 0, ALL, 0, 0);
        Due.is("span", x.span(0, 0), 0);
        Due.is("span", x.span(0, 1), 2000);
        Due.is("span", x.span(0, 2), 2001);
    }

    private static void wrongEnough() {
        PulledCrystal x = new PulledCrystal();
        Due.is("enough without a POT", x.enough(0, 1, 0, 0, 0), -1);
        x = tenRows(1, 777, 1000, "");
        Due.is("stuff 6", x.enough(6, 1, 0, 0, 0), -1);
        Due.is("stuff -1", x.enough(-1, 1, 0, 0, 0), -1);
        Due.is("step 0", x.enough(0, 0, 0, 0, 0), -1);
        Due.is("step 10000000", x.enough(0, 10000000, 0, 0, 0), -1);
        Due.is("step 9999999", x.enough(0, 9999999, 0, 0, 1), 11);
        Due.is("low -1", x.enough(0, 1, -1, 0, 0), -1);
        Due.is("high below low", x.enough(0, 1, 2, 1, 0), -1);
        Due.is("high too great", x.enough(0, 1, 0, ALL + 1, 0), -1);
        Due.is("all", x.enough(0, 1, 0, ALL, 1), 11);
        Due.is("what 2", x.enough(0, 1, 0, 0, 2), -1);
        Due.is("what -1", x.enough(0, 1, 0, 0, -1), -1);
    }

    private static void slices() {
        PulledCrystal x = new PulledCrystal();
        Due.is("a ROW -1", x.slice(-1, 0, 0, 0), -1);
        Due.is("a ROW 600", x.slice(600, 0, 0, 0), -1);
        Due.is("stuff -1", x.slice(0, -1, 0, 0), -1);
        Due.is("stuff 6", x.slice(0, 6, 0, 0), -1);
        Due.is("found -1", x.slice(0, 0, -1, 0), -1);
        Due.is("found too great", x.slice(0, 0, ALL + 1, 0), -1);
        Due.is("give -1", x.slice(0, 0, 0, -1), -1);
        Due.is("give too great", x.slice(0, 0, 0, ALL + 1), -1);
        Due.is("SLICES", x.count(10), 0);
        for (int k = 1; k <= 100; k++) {
            Due.is("slice", x.slice(k % 2 == 0 ? 599 : 0, k % 6, ALL, ALL), k);
            Due.is("SLICES", x.count(10), k);
        }
        Due.is("one more", x.slice(0, 0, 0, 0), -1);
        Due.is("SLICES", x.count(10), 100);
    }

    private static void span(PulledCrystal x, int stuff, int least, int greatest, int many) {
        Due.is("span least", x.span(stuff, 0), least);
        Due.is("span greatest", x.span(stuff, 1), greatest);
        Due.is("span many", x.span(stuff, 2), many);
    }

    private static void span() {
        PulledCrystal x = tenRows(1, 1000, 1, "");
        span(x, 1, 0, 2000, 2001);
        // into ROW 0 go 10 by the share: 7 of it with 700 to 799 thousandths
        x.slice(0, 1, 700000, 0);
        span(x, 1, 700, 799, 100);
        span(x, 2, 0, 2000, 2001);
        x.slice(0, 1, 800000, 100000);
        span(x, 1, 700, 799, 100);
        x.slice(500, 1, 3, 0);
        x.slice(0, 0, 3, 0);
        span(x, 1, 700, 799, 100);
        span(x, 0, -2, -2, 0);
        x.slice(0, 1, 800001, 100000);
        span(x, 1, -2, -2, 0);
        PulledCrystal z = tenRows(1, 1000, 1, "");
        z.slice(0, 1, 650000, 50000);
        span(z, 1, 600, 799, 200);
        z = tenRows(1, 1000, 1, "");
        z.slice(0, 1, 750000, 49999);
        span(z, 1, -2, -2, 0);
        z = tenRows(1, 1000, 1, "");
        z.slice(0, 1, ALL, ALL);
        span(z, 1, 0, 2000, 2001);
    }

    private static void spanOfSeveral() {
        PulledCrystal x = tenRows(1, 1000, 1, "");
        x.slice(0, 1, 2000000, 0);
        span(x, 1, 2000, 2000, 1);
        x = tenRows(1, 1000, 1, "");
        // 10 of 1000 thousandths leave 990 of 990 grams, 11 leave 989: 9 of 990, which 1100 thousandths make 9 again
        x.slice(1, 1, 1000000, 0);
        int many = x.span(1, 2);
        Due.is("the least", x.span(1, 0), 1000);
        Due.is("the greatest", x.span(1, 1), 1222);
        Due.is("with 1000 to 1099 and 1112 to 1222", many, 100 + 111);
    }

    private static void spanOfStuffFive() {
        PulledCrystal x = tenRows(5, 0, 1000, ";gives 1000");
        // 1000 by then, then 990 + 1000 of 990 grams: 20
        x.slice(0, 5, 1000000, 0);
        span(x, 5, 1000, 1099, 100);
        x.slice(1, 5, 2000000, 0);
        span(x, 5, 1000, 1049, 50);
    }

    // What gives gave in MINUTES that are gone is none of it.
    private static void spanOverMeltedBack() {
        PulledCrystal x = Due.with("wide 0;gives 1000", "pull 10");
        x.begin(0, 0, 1000, 70, 5, 320, 0, 900, 0);
        x.grow(4);
        x.melt(0);
        x.grow(1);
        Due.is("5000 in the melt: 50", x.much(5, 0), 50);
        x.slice(0, 5, 1000000, 0);
        span(x, 5, 1000, 1099, 100);
        enough(x, 5, 1000, 5000000, 5000000, 4, 1);
    }

    private static void wrongSpan() {
        PulledCrystal x = new PulledCrystal();
        Due.is("span without a POT", x.span(0, 0), -1);
        x = tenRows(1, 777, 1000, "");
        Due.is("stuff 6", x.span(6, 0), -1);
        Due.is("stuff -1", x.span(-1, 0), -1);
        Due.is("what 3", x.span(0, 3), -1);
        Due.is("what -1", x.span(0, -1), -1);
        Due.is("put in as told for the POT", x.stuff(1, 0, 0), 777);
        x.slice(0, 1, 700000, 0);
        // 7 by the share: 1000 to 1142 make 7
        span(x, 1, 1000, 1142, 143);
        x.melt(0);
        span(x, 1, 0, 2000, 2001);
    }
}
