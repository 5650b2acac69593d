// Promises 20 to 22, 30, 31 and Terms, IV: each sentence with a bound, on both sides of it.
public final class CutBoundsTest {
    private static final int ALL = 1000000000;

    public static void main(String[] args) {
        wantsFromLeastToMost();
        highNotBelowLow();
        eightWants();
        withoutPotOrWants();
        fromLowToHigh();
        withoutGrown();
        wideAtLeast();
        lengthAtLeast();
        longestLength();
        coinsForEachStep();
        mostCoinsOfAll();
        cleanAtTheBound();
        faultedAtTheBound();
        atBothEnds();
        sixHundredPieces();
        onePieceOfAll();
        leftOutAhead();
        fewerRowsAhead();
        leastWantAhead();
        severalWantsAlike();
        kthPiece();
        whyAtTheBounds();
        whyTogether();
        anotherThin();
        Due.done("CutBoundsTest");
    }

    private static PulledCrystal pot(String furnace, String minder, int grams, int wide, int faults) {
        PulledCrystal x = Due.with(furnace, minder);
        x.begin(0, 0, grams, 400, 5, wide, 0, 900, faults);
        return x;
    }

    private static int want(PulledCrystal x, int... of) {
        return x.want(of[0], of[1], of[2], of[3], of[4], of[5]);
    }

    private static void whose(PulledCrystal x, int... due) {
        for (int row = 0; row < due.length; row++) {
            Due.is("whose " + row, x.whose(row), due[row]);
        }
        Due.is("whose behind the last", x.whose(due.length), -2);
        Due.is("whose ahead of the first", x.whose(-1), -2);
    }

    private static void piece(PulledCrystal x, int k, int first, int rows, int want, int coins) {
        int[] due = {first, rows, want, coins};
        for (int what = 0; what < 4; what++) {
            Due.is("piece " + k + " " + what, x.piece(k, what), due[what]);
        }
    }

    private static void wantsFromLeastToMost() {
        int[] least = {0, 0, 0, 0, 1, 1};
        int[] most = {5, ALL, ALL, 9999, 9999, 999};
        for (int k = 0; k < 6; k++) {
            PulledCrystal x = new PulledCrystal();
            int[] of = {2, 500, 500, 50, 50, 50};
            of[k] = k == 2 ? 500 : least[k];
            Due.is("the least in place " + k, want(x, of), 0);
            of[k] = least[k] - 1;
            Due.is("below in place " + k, want(x, of), -1);
            of[k] = k == 1 ? 500 : most[k];
            Due.is("the most in place " + k, want(x, of), 1);
            of[k] = most[k] + 1;
            Due.is("above in place " + k, want(x, of), -1);
            Due.is("WANTS", x.count(9), 2);
        }
        PulledCrystal x = new PulledCrystal();
        Due.is("all the least", want(x, least), 0);
        Due.is("all the most", want(x, most), 1);
    }

    private static void highNotBelowLow() {
        PulledCrystal x = new PulledCrystal();
        Due.is("high below low", x.want(0, 500, 499, 0, 1, 1), -1);
        Due.is("high is low", x.want(0, 500, 500, 0, 1, 1), 0);
        Due.is("high above low", x.want(0, 500, 501, 0, 1, 1), 1);
        Due.is("0 and 0", x.want(0, 0, 0, 0, 1, 1), 2);
        Due.is("the most and the most", x.want(0, ALL, ALL, 0, 1, 1), 3);
        Due.is("the most and one below", x.want(0, ALL, ALL - 1, 0, 1, 1), -1);
    }

    private static void eightWants() {
        PulledCrystal x = pot("wide 0", "pull 10", 5000, 300, 0);
        x.grow(2);
        for (int k = 0; k < 8; k++) {
            Due.is("why, no WANT yet", x.why(0, k), -1);
            Due.is("want", x.want(0, 0, ALL, 0, 10, k + 1), k);
            Due.is("why", x.why(0, k), 0);
            Due.is("WANTS", x.count(9), k + 1);
            Due.is("the one with most coins", x.cut(), 20 * (k + 1));
            Due.is("it is heeded", x.whose(1), k);
        }
        Due.is("a ninth", x.want(0, 0, ALL, 0, 10, 999), -1);
        Due.is("WANTS", x.count(9), 8);
        Due.is("it is not heeded", x.cut(), 160);
        Due.is("why of a ninth", x.why(0, 8), -1);
    }

    private static void withoutPotOrWants() {
        PulledCrystal x = new PulledCrystal();
        for (int n = 0; n < 2; n++) {
            Due.is("cut", x.cut(), 0);
            Due.is("PIECES", x.piece(-1, 0), 0);
            Due.is("piece 0", x.piece(0, 0), -1);
            Due.is("whose", x.whose(0), -2);
            Due.is("why", x.why(0, 0), -1);
            x.want(0, 0, ALL, 0, 1, 1);
        }
        x = pot("wide 0", "pull 10", 5000, 300, 0);
        Due.is("cut without ROWS", x.cut(), 0);
        x.grow(2);
        Due.is("cut without WANTS", x.cut(), 0);
        Due.is("PIECES without WANTS", x.piece(-1, 0), 0);
        Due.is("piece 0 without WANTS", x.piece(0, 0), -1);
        whose(x, -1, -1);
        Due.is("why without WANTS", x.why(0, 0), -1);
    }

    // ROWS of 100 grams with 500, 504, 508, 520 of STUFF 0.
    private static PulledCrystal ofParts() {
        PulledCrystal x = Due.with("wide 100 if minute > 0", "pull 10");
        x.stuff(0, 0, 10000);
        x.stuff(0, 1, 500);
        x.begin(0, 0, 1000, 500, 0, 400, 0, 900, 0);
        x.grow(4);
        int[] parts = {5000000, 5040000, 5083333, 5204081};
        for (int row = 0; row < 4; row++) {
            Due.is("parts", x.parts(0, row), parts[row]);
        }
        return x;
    }

    private static void fit(int low, int high, int... due) {
        PulledCrystal x = ofParts();
        x.want(0, low, high, 0, 10, 1);
        whose(x, due);
    }

    private static void fromLowToHigh() {
        fit(5040000, 5083333, -1, 0, 0, -1);
        fit(5040001, 5083333, -1, -1, 0, -1);
        fit(5039999, 5083333, -1, 0, 0, -1);
        fit(5040000, 5083332, -1, 0, -1, -1);
        fit(5040000, 5083334, -1, 0, 0, -1);
        fit(5000000, 5000000, 0, -1, -1, -1);
        fit(5204081, 5204081, -1, -1, -1, 0);
        fit(5204082, ALL, -1, -1, -1, -1);
        fit(0, 4999999, -1, -1, -1, -1);
        fit(0, ALL, 0, 0, 0, 0);
    }

    // ROWS without GROWN have 0 parts, though there is much in the melt.
    private static void withoutGrown() {
        PulledCrystal x = Due.with("wide 0", "pull 10");
        x.stuff(0, 0, 999999999);
        x.begin(0, 0, 1000, 500, 0, 99, 0, 900, 0);
        x.grow(2);
        Due.is("GROWN", x.row(0, 3), 0);
        x.want(0, 1, ALL, 0, 10, 5);
        Due.is("from 1 on", x.cut(), 0);
        x.want(0, 0, 0, 0, 10, 3);
        Due.is("0 alone", x.cut(), 60);
        Due.is("why", x.why(1, 0), 8);
        Due.is("why", x.why(1, 1), 0);
    }

    private static void wideAtLeast() {
        PulledCrystal x = Due.ofWides(100, 0, 10, 199, 200, 201, 1, 9999);
        x.want(0, 0, ALL, 200, 10, 1);
        whose(x, -1, 0, 0, -1, 0);
        x.want(0, 0, ALL, 9999, 10, 2);
        whose(x, -1, 0, 0, -1, 1);
        x.want(0, 0, ALL, 0, 10, 1);
        whose(x, 2, 0, 0, 2, 1);
        // the thinnest ROW there can be has WIDE 0
        x = Due.ofWides(100, 0, 10, 5, 0);
        x.want(0, 0, ALL, 1, 10, 1);
        whose(x, 0, -1);
        x.want(0, 0, ALL, 0, 10, 1);
        whose(x, 0, 1);
    }

    private static void lengthAtLeast() {
        int[] lengths = {1, 7, 8, 14, 15, 21, 22};
        int[] pieces = {3, 3, 1, 1, 1, 1, 0};
        for (int k = 0; k < lengths.length; k++) {
            PulledCrystal x = Due.ofWides(100, 0, 7, 100, 100, 100);
            x.want(0, 0, ALL, 0, lengths[k], 2);
            Due.is("PIECES of length " + lengths[k], x.piece(-1, 0), pieces[k]);
            Due.is("cut", x.cut(), pieces[k] == 0 ? 0 : 42);
        }
    }

    private static void longestLength() {
        PulledCrystal x = pot("wide 0", "pull 99", 99999, 10, 0);
        x.want(0, 0, ALL, 0, 9999, 999);
        x.grow(100);
        Due.is("9900", x.cut(), 0);
        x.grow(1);
        Due.is("9999", x.cut(), 9999 * 999);
        piece(x, 0, 0, 101, 0, 9999 * 999);
        x.grow(1);
        piece(x, 0, 0, 102, 0, 102 * 99 * 999);
        x.grow(99);
        Due.is("201 ROWS are one PIECE", x.piece(-1, 0), 1);
        x.grow(1);
        Due.is("202 ROWS are two", x.piece(-1, 0), 2);
        piece(x, 1, 101, 101, 0, 9999 * 999);
        x.grow(398);
        Due.is("all coins there can be", x.cut(), 600 * 99 * 999);
    }

    private static void coinsForEachStep() {
        for (int coins : new int[] {1, 2, 998, 999}) {
            PulledCrystal x = Due.ofWides(100, 0, 7, 100, 100, 100);
            x.want(0, 0, ALL, 0, 15, coins);
            Due.is("all steps, not whole lengths", x.cut(), 21 * coins);
            piece(x, 0, 0, 3, 0, 21 * coins);
        }
    }

    private static void mostCoinsOfAll() {
        PulledCrystal x = Due.ofWides(100, 0, 10, 200, 200, 300, 200, 200);
        x.want(0, 0, ALL, 300, 10, 49);
        x.want(0, 0, ALL, 200, 50, 10);
        // 490, or 500
        whose(x, 1, 1, 1, 1, 1);
        Due.is("cut", x.cut(), 500);
        x.want(0, 0, ALL, 300, 10, 51);
        // 510, or 500
        whose(x, -1, -1, 2, -1, -1);
        Due.is("cut", x.cut(), 510);
        x = Due.ofWides(100, 0, 10, 200, 200, 300, 200, 200);
        x.want(0, 0, ALL, 200, 50, 10);
        x.want(0, 0, ALL, 300, 10, 50);
        // 500 both: rather left out
        whose(x, -1, -1, 1, -1, -1);
    }

    private static void cleanAtTheBound() {
        PulledCrystal x = Due.ofWides(100, 14, 7, 100, 30, 31, 30, 100);
        x.want(0, 0, ALL, 0, 7, 1);
        whose(x, -1, -1, -1, -1, 0);
        x.melt(4);
        whose(x, -1, -1, -1, -1);
        x = Due.ofWides(100, 15, 7, 100, 30, 31, 30, 100);
        x.want(0, 0, ALL, 0, 7, 1);
        whose(x, -1, -1, -1, -1, -1);
        x = Due.ofWides(100, 0, 7, 100, 30, 31, 30, 100);
        x.want(0, 0, ALL, 0, 7, 1);
        whose(x, 0, 0, 0, 0, 0);
    }

    private static void faultedAtTheBound() {
        PulledCrystal x = Due.ofWides(100, 0, 7, 100, 100, 100, 100);
        x.want(0, 0, ALL, 0, 14, 1);
        whose(x, 0, 0, 0, 0);
        x.fault(3);
        whose(x, 0, 0, 0, -1);
        piece(x, 0, 0, 3, 0, 21);
        x.fault(2);
        whose(x, 0, 0, -1, -1);
        x.fault(1);
        whose(x, -1, -1, -1, -1);
        x.fault(0);
        whose(x, -1, -1, -1, -1);
        Due.is("cut", x.cut(), 0);
    }

    private static void atBothEnds() {
        PulledCrystal x = Due.ofWides(100, 0, 10, 300, 200, 200, 300);
        x.want(0, 0, ALL, 300, 10, 3);
        whose(x, 0, -1, -1, 0);
        Due.is("PIECES", x.piece(-1, 0), 2);
        piece(x, 0, 0, 1, 0, 30);
        piece(x, 1, 3, 1, 0, 30);
        x.want(0, 0, ALL, 200, 30, 2);
        // 30 + 60, or 60 + 30: rather one ROW from ROW 0 on than three
        whose(x, 0, 1, 1, 1);
        piece(x, 1, 1, 3, 1, 60);
        x = Due.ofWides(100, 0, 10, 300);
        x.want(0, 0, ALL, 0, 10, 3);
        whose(x, 0);
        piece(x, 0, 0, 1, 0, 30);
    }

    private static void sixHundredPieces() {
        PulledCrystal x = pot("wide 0", "pull 2", 99999, 300, 0);
        x.grow(600);
        x.want(0, 0, ALL, 0, 2, 3);
        Due.is("PIECES", x.piece(-1, 0), 600);
        Due.is("cut", x.cut(), 3600);
        piece(x, 0, 0, 1, 0, 6);
        piece(x, 599, 599, 1, 0, 6);
        Due.is("piece 600", x.piece(600, 0), -1);
        Due.is("whose 599", x.whose(599), 0);
        Due.is("whose 600", x.whose(600), -2);
        Due.is("why 599", x.why(599, 0), 0);
        Due.is("why 600", x.why(600, 0), -1);
        x.fault(599);
        Due.is("PIECES", x.piece(-1, 0), 599);
        Due.is("why 599", x.why(599, 0), 2);
        Due.is("whose 599", x.whose(599), -1);
    }

    private static void onePieceOfAll() {
        PulledCrystal x = pot("wide 0", "pull 10", 99999, 300, 0);
        x.grow(600);
        x.want(0, 0, ALL, 0, 6000, 3);
        Due.is("PIECES", x.piece(-1, 0), 1);
        piece(x, 0, 0, 600, 0, 18000);
        Due.is("whose 0", x.whose(0), 0);
        Due.is("whose 599", x.whose(599), 0);
        x.melt(599);
        Due.is("cut", x.cut(), 0);
        Due.is("PIECES", x.piece(-1, 0), 0);
    }

    // ROWS 0 and 1, or 1 and 2, for as many coins: ROW 0 is rather left out, though its WANT is the first.
    private static void leftOutAhead() {
        PulledCrystal x = ofParts();
        x.want(0, 5000000, 5040000, 0, 20, 2);
        whose(x, 0, 0, -1, -1);
        x.want(0, 5040000, 5083333, 0, 20, 2);
        whose(x, -1, 1, 1, -1);
        Due.is("cut", x.cut(), 40);
        x.want(0, 5083333, 5204081, 0, 20, 2);
        // now both ends together have more
        whose(x, 0, 0, 2, 2);
        x = ofParts();
        x.want(0, 5000000, 5083333, 0, 30, 2);
        x.want(0, 5040000, 5204081, 0, 30, 2);
        whose(x, -1, 1, 1, 1);
        x = ofParts();
        x.want(0, 5040000, 5204081, 0, 30, 2);
        x.want(0, 0, ALL, 0, 40, 1);
        whose(x, -1, 0, 0, 0);
    }

    private static void fewerRowsAhead() {
        PulledCrystal x = Due.ofWides(100, 0, 10, 200, 200, 200, 200, 200);
        x.want(0, 0, ALL, 0, 50, 1);
        whose(x, 0, 0, 0, 0, 0);
        x.want(0, 0, ALL, 0, 30, 1);
        whose(x, 0, 0, 0, 0, 0);
        piece(x, 0, 0, 5, 0, 50);
        x.want(0, 0, ALL, 0, 20, 1);
        // 2 ROWS for WANT 2, then 3 for WANT 1 or 2
        whose(x, 2, 2, 1, 1, 1);
        Due.is("PIECES", x.piece(-1, 0), 2);
        x.want(0, 0, ALL, 0, 10, 1);
        whose(x, 3, 3, 3, 3, 3);
        Due.is("PIECES", x.piece(-1, 0), 5);
        // ROWS without PULL behind a PIECE are left out, those within are not
        PulledCrystal z = pot("wide 0", "pull 10 if minute = 0 or minute = 3;pull 0", 5000, 300, 0);
        z.grow(6);
        z.want(0, 0, ALL, 0, 20, 1);
        piece(z, 0, 0, 4, 0, 20);
        whose(z, 0, 0, 0, 0, -1, -1);
    }

    private static void leastWantAhead() {
        PulledCrystal x = Due.ofWides(100, 0, 10, 200, 200, 300);
        x.want(0, 0, ALL, 300, 10, 1);
        for (int k = 1; k < 8; k++) {
            x.want(0, 0, ALL, 0, 10, 1);
        }
        whose(x, 1, 1, 0);
        x = Due.ofWides(100, 0, 10, 200, 200, 300);
        for (int k = 0; k < 7; k++) {
            x.want(0, 0, ALL, 0, 10, 1);
        }
        x.want(0, 0, ALL, 0, 10, 2);
        whose(x, 7, 7, 7);
    }

    private static void severalWantsAlike() {
        PulledCrystal x = Due.ofWides(100, 0, 10, 300, 200, 300, 200);
        x.want(0, 0, ALL, 300, 10, 5);
        x.want(0, 0, ALL, 200, 10, 4);
        whose(x, 0, 1, 0, 1);
        Due.is("one WANT has several PIECES", x.piece(-1, 0), 4);
        Due.is("cut", x.cut(), 50 + 40 + 50 + 40);
    }

    private static void kthPiece() {
        PulledCrystal x = Due.ofWides(100, 0, 10, 200, 300, 200, 300, 200);
        x.want(0, 0, ALL, 300, 10, 5);
        Due.is("PIECES", x.piece(-1, 0), 2);
        piece(x, 0, 1, 1, 0, 50);
        piece(x, 1, 3, 1, 0, 50);
        for (int k : new int[] {2, -2, 3, Integer.MAX_VALUE, Integer.MIN_VALUE}) {
            for (int what = 0; what < 4; what++) {
                Due.is("piece " + k, x.piece(k, what), -1);
            }
        }
        for (int what : new int[] {-1, 4, Integer.MAX_VALUE, Integer.MIN_VALUE}) {
            Due.is("piece 0 " + what, x.piece(0, what), -1);
            Due.is("piece 1 " + what, x.piece(1, what), -1);
        }
        x.melt(3);
        Due.is("PIECES", x.piece(-1, 0), 1);
        Due.is("piece 1", x.piece(1, 0), -1);
    }

    private static void whyAtTheBounds() {
        PulledCrystal x = ofParts();
        x.want(0, 5040000, 5083333, 500, 9999, 1);
        int[] due = {4 + 8, 0, 0, 16};
        for (int row = 0; row < 4; row++) {
            Due.is("why " + row, x.why(row, 0), due[row]);
        }
        x.want(0, 5040001, 5083332, 501, 9999, 1);
        due = new int[] {4 + 8, 4 + 8, 16, 16};
        for (int row = 0; row < 4; row++) {
            Due.is("why " + row, x.why(row, 1), due[row]);
        }
        Due.is("why 4", x.why(4, 0), -1);
        Due.is("why -1", x.why(-1, 0), -1);
        Due.is("WANT 2", x.why(0, 2), -1);
        Due.is("WANT -1", x.why(0, -1), -1);
    }

    private static void whyTogether() {
        PulledCrystal x = Due.with("wide 0", "pull 10");
        x.stuff(3, 0, 1000);
        x.begin(0, 0, 1000, 400, 5, 1000, 0, 900, 5);
        x.grow(2);
        x.want(3, 1000000, 1000000, 1000, 1, 1);
        x.want(3, 1000001, ALL, 1001, 1, 1);
        x.want(3, 0, 999999, 1001, 1, 1);
        int[] due = {1, 1 + 4 + 8, 1 + 4 + 16};
        for (int want = 0; want < 3; want++) {
            Due.is("not CLEAN " + want, x.why(1, want), due[want]);
        }
        x.fault(1);
        for (int want = 0; want < 3; want++) {
            Due.is("not CLEAN " + want, x.why(0, want), due[want]);
            Due.is("not CLEAN and FAULTED " + want, x.why(1, want), due[want] + 2);
        }
    }

    private static void anotherThin() {
        PulledCrystal x = Due.ofWides(100, 5, 10, 40, 100, 100);
        x.want(0, 0, ALL, 0, 10, 1);
        whose(x, -1, -1, -1);
        x.thin(39);
        whose(x, -1, -1, -1);
        x.thin(40);
        whose(x, -1, 0, 0);
        x.thin(9999);
        whose(x, -1, 0, 0);
        Due.is("why", x.why(0, 0), 1);
        Due.is("why", x.why(1, 0), 0);
    }
}
