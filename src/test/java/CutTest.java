// Promises 20 to 22, 30, 31: want, cut, whose, piece, why.
public final class CutTest {
    private static final int ALL = 1000000000;

    public static void main(String[] args) {
        wants();
        noPot();
        stepsOfLength();
        wideAndParts();
        cleanAndFaulted();
        mostCoins();
        ratherLeftOut();
        ratherFewerRows();
        ratherLeastWant();
        pieces();
        reasons();
        Due.done("CutTest");
    }

    private static void wants() {
        PulledCrystal x = new PulledCrystal();
        int[] low = {0, 0, 0, 0, 1, 1};
        int[] high = {5, ALL, ALL, 9999, 9999, 999};
        for (int k = 0; k < 6; k++) {
            int[] below = low.clone();
            below[k]--;
            Due.is("want below " + k, want(x, below), -1);
            int[] above = high.clone();
            above[k]++;
            Due.is("want above " + k, want(x, above), -1);
        }
        Due.is("high below low", x.want(0, 5, 4, 0, 1, 1), -1);
        Due.is("none told", x.count(9), 0);
        Due.is("lowest", want(x, low), 0);
        Due.is("highest", want(x, high), 1);
        for (int k = 2; k < 8; k++) {
            Due.is("want", x.want(3, 5, 5, 7, 8, 9), k);
            Due.is("WANTS", x.count(9), k + 1);
        }
        Due.is("a ninth", want(x, low), -1);
        Due.is("WANTS", x.count(9), 8);
    }

    private static int want(PulledCrystal x, int[] of) {
        return x.want(of[0], of[1], of[2], of[3], of[4], of[5]);
    }

    private static void noPot() {
        PulledCrystal x = new PulledCrystal();
        x.want(0, 0, ALL, 0, 1, 1);
        Due.is("cut without a POT", x.cut(), 0);
        Due.is("whose without a POT", x.whose(0), -2);
        Due.is("PIECES without a POT", x.piece(-1, 0), 0);
        Due.is("piece without a POT", x.piece(0, 0), -1);
        Due.is("why without a POT", x.why(0, 0), -1);
    }

    private static void whose(PulledCrystal x, int... due) {
        for (int row = 0; row < due.length; row++) {
            Due.is("whose " + row, x.whose(row), due[row]);
        }
        Due.is("whose -1", x.whose(-1), -2);
        Due.is("whose behind", x.whose(due.length), -2);
    }

    private static void stepsOfLength() {
        PulledCrystal x = Due.ofWides(100, 0, 7, 100, 100, 100, 100);
        Due.is("without a WANT", x.cut(), 0);
        whose(x, -1, -1, -1, -1);
        x.want(0, 0, ALL, 0, 29, 3);
        Due.is("29 steps aren't there", x.cut(), 0);
        x.want(0, 0, ALL, 0, 28, 3);
        Due.is("28 steps for 3 coins each", x.cut(), 84);
        whose(x, 1, 1, 1, 1);
        x.want(0, 0, ALL, 0, 15, 4);
        Due.is("as many as are there, not 15", x.cut(), 112);
        whose(x, 2, 2, 2, 2);
        x.grow(1);
        Due.is("a ROW more", x.cut(), 140);
        // of the two first ROWS one is left out
        x.want(0, 0, ALL, 0, 7, 1);
        Due.is("no better", x.cut(), 140);
        whose(x, 2, 2, 2, 2, 2);
    }

    private static void wideAndParts() {
        PulledCrystal x = new PulledCrystal();
        Due.furnace(x, "wide 100 if minute > 0");
        Due.minder(x, "pull 10");
        x.stuff(0, 0, 10000);
        x.stuff(0, 1, 500);
        x.begin(0, 0, 1000, 500, 0, 400, 0, 900, 0);
        x.grow(4);
        int[] parts = {5000000, 5040000, 5083333, 5204081};
        for (int row = 0; row < 4; row++) {
            Due.is("parts", x.parts(0, row), parts[row]);
        }
        x.want(0, 0, ALL, 500, 1, 1);
        whose(x, -1, 0, 0, 0);
        x.want(0, 5040000, 5083333, 0, 1, 2);
        whose(x, -1, 1, 1, 0);
        Due.is("both", x.cut(), 10 + 40);
        x.want(0, 5000000, 5000000, 400, 10, 5);
        whose(x, 2, 1, 1, 0);
        Due.is("three", x.cut(), 10 + 40 + 50);
        x.want(0, 5000000, 5083333, 400, 31, 999);
        x.want(0, 5000001, 5083333, 400, 21, 999);
        x.want(0, 5000000, 5083332, 400, 21, 999);
        Due.is("none that is too long", x.cut(), 100);
        x.want(1, 1, ALL, 0, 1, 999);
        Due.is("none of a STUFF that isn't there", x.cut(), 100);
        x.want(1, 0, 0, 0, 40, 999);
        Due.is("all without a STUFF", x.cut(), 40 * 999);
    }

    private static void cleanAndFaulted() {
        PulledCrystal x = Due.ofWides(100, 5, 5, 100, 20, 100, 100, 100, 100);
        x.want(0, 0, ALL, 0, 5, 1);
        Due.is("CLEAN ROWS", x.cut(), 20);
        whose(x, -1, -1, 0, 0, 0, 0);
        x.fault(4);
        Due.is("CLEAN ROWS ahead of the FAULT", x.cut(), 10);
        whose(x, -1, -1, 0, 0, -1, -1);
        x.melt(5);
        Due.is("the FAULT is there still", x.cut(), 10);
        x.melt(4);
        x.grow(1);
        Due.is("the FAULT is gone", x.cut(), 15);
        x.thin(10);
        Due.is("no ROW is CLEAN", x.cut(), 0);
    }

    private static void mostCoins() {
        PulledCrystal x = Due.ofWides(100, 0, 10, 300, 200, 200, 200, 300, 100);
        x.want(0, 0, ALL, 300, 10, 50);
        x.want(0, 0, ALL, 200, 41, 20);
        Due.is("two single ROWS, or five together", x.cut(), 1000);
        whose(x, 0, -1, -1, -1, 0, -1);
        x.want(0, 0, ALL, 0, 60, 17);
        Due.is("all in one", x.cut(), 1020);
        whose(x, 2, 2, 2, 2, 2, 2);
        x.want(0, 0, ALL, 200, 30, 10);
        Due.is("three PIECES", x.cut(), 1300);
        whose(x, 0, 3, 3, 3, 0, -1);
        x.want(0, 0, ALL, 200, 40, 21);
        // 4 ROWS by 21 and one by 50: 840 + 500
        Due.is("rather two PIECES", x.cut(), 1340);
        whose(x, 0, 4, 4, 4, 4, -1);
    }

    // ROWS without PULL are left out where they can be.
    private static void ratherLeftOut() {
        PulledCrystal x = Due.with("wide 0", "pull 10 if minute = 1 or minute = 3;pull 0");
        x.begin(0, 0, 9000, 500, 0, 400, 0, 900, 0);
        x.grow(6);
        x.want(0, 0, ALL, 0, 10, 1);
        Due.is("cut", x.cut(), 20);
        whose(x, -1, 0, -1, 0, -1, -1);
        PulledCrystal z = Due.with("wide 0", "pull 10 if minute = 1 or minute = 3;pull 0");
        z.begin(0, 0, 9000, 500, 0, 400, 0, 900, 0);
        z.grow(6);
        z.want(0, 0, ALL, 0, 11, 1);
        Due.is("cut", z.cut(), 20);
        whose(z, -1, 0, 0, 0, -1, -1);
    }

    private static void ratherFewerRows() {
        PulledCrystal x = Due.ofWides(100, 0, 10, 100, 100, 100, 100, 100);
        x.want(0, 0, ALL, 0, 30, 2);
        x.want(0, 0, ALL, 0, 20, 2);
        Due.is("cut", x.cut(), 100);
        whose(x, 1, 1, 0, 0, 0);
        Due.is("PIECES", x.piece(-1, 0), 2);
        PulledCrystal z = Due.ofWides(100, 0, 10, 100, 100, 100, 100, 100);
        z.want(0, 0, ALL, 0, 20, 2);
        z.want(0, 0, ALL, 0, 30, 2);
        whose(z, 0, 0, 0, 0, 0);
        Due.is("ROWS of the first", z.piece(0, 1), 2);
        Due.is("ROWS of the second", z.piece(1, 1), 3);
        Due.is("the second is for the least WANT", z.piece(1, 2), 0);
    }

    private static void ratherLeastWant() {
        PulledCrystal x = Due.ofWides(100, 0, 10, 100, 100, 200);
        x.want(0, 0, ALL, 101, 10, 3);
        x.want(0, 0, ALL, 0, 10, 3);
        x.want(0, 0, ALL, 0, 10, 3);
        whose(x, 1, 1, 0);
        Due.is("PIECES", x.piece(-1, 0), 3);
    }

    private static void piece(PulledCrystal x, int k, int... due) {
        for (int what = 0; what < 4; what++) {
            Due.is("piece " + k + " " + what, x.piece(k, what), due[what]);
        }
    }

    private static void pieces() {
        PulledCrystal x = Due.ofWides(100, 0, 10, 300, 200, 200, 200, 300, 100);
        Due.is("without a WANT", x.piece(-1, 0), 0);
        x.want(0, 0, ALL, 300, 10, 50);
        x.want(0, 0, ALL, 200, 30, 10);
        for (int what = 0; what < 4; what++) {
            Due.is("PIECES", x.piece(-1, what), 3);
        }
        piece(x, 0, 0, 1, 0, 500);
        piece(x, 1, 1, 3, 1, 300);
        piece(x, 2, 4, 1, 0, 500);
        Due.is("piece 3", x.piece(3, 0), -1);
        Due.is("piece -2", x.piece(-2, 0), -1);
        Due.is("what 4", x.piece(0, 4), -1);
        Due.is("what -1", x.piece(0, -1), -1);
        Due.is("piece far", x.piece(Integer.MAX_VALUE, 0), -1);
        Due.is("piece far", x.piece(Integer.MIN_VALUE, 0), -1);
    }

    private static void reasons() {
        PulledCrystal x = new PulledCrystal();
        Due.furnace(x, "wide 20 - wide if minute = 1;wide 400 - wide");
        Due.minder(x, "pull 10");
        x.stuff(0, 0, 10000);
        x.begin(0, 0, 1000, 500, 0, 400, 0, 900, 10);
        x.grow(4);
        Due.is("a ROW of 16 grams", x.parts(0, 2), 10000000);
        x.want(0, 0, ALL, 0, 1, 1);
        x.want(0, 10000000, 10000000, 400, 1, 1);
        x.want(0, 10000001, ALL, 401, 1, 1);
        x.want(0, 0, 9999999, 399, 9999, 1);
        x.fault(3);
        int[][] due = {{1, 1, 13, 17}, {1, 13, 13, 5}, {0, 0, 12, 16}, {2, 2, 14, 18}};
        for (int row = 0; row < 4; row++) {
            for (int want = 0; want < 4; want++) {
                Due.is("why " + row + " " + want, x.why(row, want), due[row][want]);
            }
        }
        x.fault(1);
        Due.is("not CLEAN and FAULTED", x.why(1, 0), 3);
        Due.is("why 4", x.why(4, 0), -1);
        Due.is("why -1", x.why(-1, 0), -1);
        Due.is("no WANT 4", x.why(0, 4), -1);
        Due.is("no WANT -1", x.why(0, -1), -1);
        Due.is("no WANT 8", x.why(0, 8), -1);
    }
}
