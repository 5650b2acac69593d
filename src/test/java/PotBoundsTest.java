// Promises 6 to 19 and Terms, II and III: each sentence with a bound, on both sides of it.
public final class PotBoundsTest {
    public static void main(String[] args) {
        putZeroToMost();
        shareZeroToTwice();
        forAllPotsBegunThen();
        notMoreThanThereIs();
        beginsFromLeastToMost();
        inPlaceOfTheOneThereWas();
        pullHeld();
        heatHeld();
        byTheWordsAhead();
        sumHeldAheadOfSwirl();
        wideHeld();
        seedOfTheRest();
        leftAtMost();
        leftByThousand();
        givesAheadOfGrown();
        growZeroToSixHundred();
        nothingLeft();
        wideZero();
        sixHundredRows();
        lifeOver();
        lifeOfNineHundred();
        firstOfTheseEnds();
        countsOfNone();
        Due.done("PotBoundsTest");
    }

    private static PulledCrystal pot(String furnace, String minder, int grams, int wide, int life) {
        PulledCrystal x = Due.with(furnace, minder);
        x.begin(0, 0, grams, 400, 5, wide, 0, life, 0);
        return x;
    }

    private static void putZeroToMost() {
        PulledCrystal x = Due.with("wide 0", "pull 10");
        for (int stuff = 0; stuff < 6; stuff++) {
            Due.is("none at first", x.stuff(stuff, 0, 999999999), 0);
            Due.is("a billion", x.stuff(stuff, 0, 1000000000), -1);
            Due.is("below 0", x.stuff(stuff, 0, -1), -1);
            x.begin(0, 0, 1000, 400, 5, 1000, 0, 900, 0);
            Due.is("in the melt", x.much(stuff, -1), 999999999);
            x.grow(10);
            Due.is("LEFT", x.count(1), 0);
            long all = 0;
            for (int row = 0; row < 10; row++) {
                all += x.much(stuff, row);
            }
            Due.is("all of it in the ROWS", all, 999999999);
            Due.is("most to 0", x.stuff(stuff, 0, 0), 999999999);
            x.begin(0, 0, 1000, 400, 5, 1000, 0, 900, 0);
            Due.is("none in the melt", x.much(stuff, -1), 0);
        }
        Due.is("STUFF 6", x.stuff(6, 0, 0), -1);
        Due.is("STUFF -1", x.stuff(-1, 0, 0), -1);
    }

    private static void shareZeroToTwice() {
        PulledCrystal x = Due.with("wide 0", "pull 10");
        int[] shares = {0, 1, 9, 10, 999, 1000, 1001, 1999, 2000};
        int[] due = {0, 0, 0, 1, 99, 100, 100, 199, 200};
        for (int stuff = 0; stuff < 6; stuff++) {
            x.stuff(stuff, 0, 1000);
            for (int k = 0; k < shares.length; k++) {
                x.stuff(stuff, 1, shares[k]);
                x.begin(0, 0, 1000, 400, 5, 1000, 0, 900, 0);
                x.grow(1);
                Due.is("of STUFF " + stuff + " by a share of " + shares[k], x.much(stuff, 0), due[k]);
                Due.is("in the melt", x.much(stuff, -1), 1000 - due[k]);
            }
            Due.is("2001", x.stuff(stuff, 1, 2001), -1);
            Due.is("-1", x.stuff(stuff, 1, -1), -1);
            Due.is("it was 2000 still", x.stuff(stuff, 1, 1000), 2000);
        }
        Due.is("STUFF 6", x.stuff(6, 1, 0), -1);
        Due.is("what 2", x.stuff(0, 2, 0), -1);
    }

    private static void forAllPotsBegunThen() {
        PulledCrystal x = pot("wide 0", "pull 10", 1000, 1000, 900);
        x.stuff(3, 0, 600);
        Due.is("told behind the beginning", x.much(3, -1), 0);
        for (int n = 0; n < 3; n++) {
            x.begin(0, 0, 1000, 400, 5, 1000, 0, 900, 0);
            Due.is("told ahead", x.much(3, -1), 600);
            x.grow(1);
            Due.is("a tenth", x.much(3, 0), 60);
        }
        x.stuff(3, 1, 0);
        x.grow(1);
        Due.is("its own share still", x.much(3, 1), 60);
        x.melt(0);
        Due.is("melting back isn't beginning", x.much(3, -1), 600);
        x.grow(1);
        Due.is("its own share still", x.much(3, 0), 60);
        x.begin(0, 0, 1000, 400, 5, 1000, 0, 900, 0);
        x.grow(1);
        Due.is("the share told", x.much(3, 0), 0);
    }

    // With 2000 thousandths what would go along is all and more from half of LEFT on.
    private static void notMoreThanThereIs() {
        PulledCrystal x = Due.with("wide 0", "pull 10");
        x.stuff(0, 0, 1001);
        x.stuff(0, 1, 2000);
        int[] grams = {201, 200, 199, 100};
        // 1001 * 100 / 201 is 498; twice 500; twice 503 is more than there is
        int[] due = {996, 1000, 1001, 1001};
        for (int k = 0; k < 4; k++) {
            x.begin(0, 0, grams[k], 400, 5, 1000, 0, 900, 0);
            x.grow(1);
            Due.is("of " + grams[k] + " grams", x.much(0, 0), due[k]);
            Due.is("in the melt", x.much(0, -1), 1001 - due[k]);
        }
    }

    private static void beginsFromLeastToMost() {
        PulledCrystal x = Due.with("wide 0", "pull 0");
        int[] least = {0, 0, 1, 1, 0, 1, 0, 1, 0};
        int[] most = {0, 0, 99999, 9999, 999, 9999, Integer.MAX_VALUE, 900, 999};
        for (int k = 0; k < 9; k++) {
            int[] of = {0, 0, 500, 400, 5, 300, 7, 90, 3};
            Due.is("some", begin(x, of), true);
            of[k] = least[k];
            Due.is("the least in place " + k, begin(x, of), true);
            of[k] = most[k];
            Due.is("the most in place " + k, begin(x, of), true);
            of[k] = least[k] - 1;
            Due.is("below in place " + k, begin(x, of), false);
            of[k] = most[k] + 1;
            Due.is("above in place " + k, begin(x, of), false);
        }
        begin(x, most);
        Due.is("LEFT", x.count(1), 99999);
        Due.is("WIDE", x.count(2), 9999);
        Due.is("HEAT", x.count(3), 999);
        Due.is("faults", x.faults(), 999);
        begin(x, least);
        Due.is("LEFT", x.count(1), 1);
        Due.is("WIDE", x.count(2), 1);
        Due.is("HEAT", x.count(3), 0);
        Due.is("faults", x.faults(), 0);
        Due.is("it GROWS", x.state(), 1);
        Due.is("grow", x.grow(2), 1);
        Due.is("a LIFE of 1 is over", x.state(), 5);
    }

    private static boolean begin(PulledCrystal x, int[] of) {
        return x.begin(of[0], of[1], of[2], of[3], of[4], of[5], of[6], of[7], of[8]);
    }

    private static void inPlaceOfTheOneThereWas() {
        PulledCrystal x = pot("wide 10;gives 5", "pull 9;heat 70", 5000, 300, 20);
        x.grow(20);
        x.fault(0);
        Due.is("ENDED", x.state(), 5);
        x.begin(0, 0, 400, 390, 6, 200, 0, 10, 0);
        int[] due = {0, 400, 200, 6, 0, 0, 0};
        for (int what = 0; what < 7; what++) {
            Due.is("count " + what, x.count(what), due[what]);
        }
        Due.is("it GROWS", x.state(), 1);
        Due.is("in the melt", x.much(5, -1), 0);
        Due.is("its own MINUTES", x.grow(600), 10);
        Due.is("no FAULT of the other", x.row(9, 6), 0);
        Due.is("seen is its own WIDE", x.row(0, 0), 210);
    }

    private static void held(String minder, int what, int due) {
        PulledCrystal x = pot("wide 0", minder, 5000, 300, 900);
        x.grow(1);
        Due.is(minder, x.row(0, what), due);
    }

    private static void pullHeld() {
        held("pull 98", 2, 98);
        held("pull 99", 2, 99);
        held("pull 100", 2, 99);
        held("pull 99999 * 99999", 2, 99);
        held("pull 1", 2, 1);
        held("pull 0", 2, 0);
        held("pull 0 - 1", 2, 0);
        held("pull 0 - 99999 * 99999", 2, 0);
        // in 32 bits it would be 5
        held("pull 65536 * 65536 + 5", 2, 99);
        held("heat 5", 2, 0);
    }

    private static void heatHeld() {
        held("heat 998", 1, 998);
        held("heat 999", 1, 999);
        held("heat 1000", 1, 999);
        held("heat 0", 1, 0);
        held("heat 0 - 1", 1, 0);
        held("heat 65536 * 65536 + 5", 1, 999);
        held("heat 0 - 65536 * 65536 + 5", 1, 0);
        held("pull 5", 1, 5);
        held("heat 6 if 1 > 2", 1, 5);
    }

    // Neither pull nor heat sees what the other becomes; the FURNACE sees both.
    private static void byTheWordsAhead() {
        PulledCrystal x = pot("wide heat * 10 + pull", "pull heat + 1;heat pull + 2", 5000, 300, 900);
        x.grow(3);
        int[][] due = {{300 + 20 + 6, 2, 6}, {326 + 80 + 3, 8, 3}, {409 + 50 + 9, 5, 9}};
        for (int row = 0; row < 3; row++) {
            for (int what = 0; what < 3; what++) {
                Due.is("row " + row + " " + what, x.row(row, what), due[row][what]);
            }
        }
    }

    private static void wide(String furnace, int from, int due) {
        PulledCrystal x = pot(furnace, "pull 0", 5000, from, 900);
        x.grow(1);
        Due.is(furnace + " from " + from, x.row(0, 0), due);
    }

    // The first x is 12345, so swirl takes all of itself away.
    private static void sumHeldAheadOfSwirl() {
        wide("wide 9998;swirl 99", 1, 9998 + 1 - 99);
        wide("wide 9999;swirl 99", 1, 9999 + 1 - 99);
        wide("wide 10000;swirl 99", 1, 9999 + 1 - 99);
        wide("wide 99999 * 99999;swirl 99", 1, 9999 + 1 - 99);
        wide("wide 65536 * 65536 + 5", 1, 9999);
        PulledCrystal x = Due.with("wide 0 - 9998;swirl 99", "pull 0");
        Due.furnace(x, "wide 0 - 9999;swirl 99");
        Due.furnace(x, "wide 0 - 10000;swirl 99");
        Due.furnace(x, "wide 0 - 65536 * 65536 + 5;swirl 99");
        // the x behind 12345 adds 175 - 99
        int[] due = {9999 - 9998 + 76, 76, 76, 76};
        for (int k = 0; k < 4; k++) {
            x.begin(k, 0, 5000, 400, 5, 9999, 12345, 900, 0);
            x.grow(1);
            Due.is("from the most down " + k, x.row(0, 0), due[k]);
        }
    }

    private static void wideHeld() {
        wide("wide 9499", 500, 9999);
        wide("wide 9500", 500, 9999);
        wide("wide 9498", 500, 9998);
        wide("wide 0 - 499", 500, 1);
        wide("wide 0 - 500", 500, 0);
        wide("wide 0 - 501", 500, 0);
        wide("swirl 50", 51, 1);
        wide("swirl 50", 50, 0);
        wide("swirl 50", 49, 0);
        wide("wide 49;swirl 50", 1, 0);
        wide("wide 9999;swirl 50", 9999, 9999);
    }

    // The seed's x stays below 2147483648; its first MINUTE tells which x it has become.
    private static void seedOfTheRest() {
        int[] seeds = {0, 1, 2, 65535, 65536, 1073741824, 2147483646, 2147483647};
        for (int seed : seeds) {
            PulledCrystal x = Due.with("swirl 99", "pull 0");
            x.begin(0, 0, 5000, 400, 5, 5000, seed, 900, 0);
            x.grow(300);
            java.math.BigInteger n = java.math.BigInteger.valueOf(seed);
            int wide = 5000;
            for (int row = 0; row < 300; row++) {
                n = n.multiply(java.math.BigInteger.valueOf(1103515245)).add(java.math.BigInteger.valueOf(12345))
                        .mod(java.math.BigInteger.valueOf(2147483648L));
                wide += n.intValueExact() / 65536 % 199 - 99;
                Due.is("seed " + seed + " ROW " + row, x.row(row, 0), wide);
            }
        }
    }

    private static void leftAtMost() {
        int[] grams = {1, 99, 100, 101, 199, 200, 201};
        for (int n : grams) {
            PulledCrystal x = pot("wide 0", "pull 10", n, 1000, 900);
            Due.is("MINUTES of " + n + " grams", x.grow(9), (n + 99) / 100);
            int last = x.count(0) - 1;
            Due.is("GROWN at last", x.row(last, 3), n - 100 * last);
            Due.is("LEFT", x.count(1), 0);
            Due.is("nothing LEFT", x.state(), 2);
        }
        // downwards: 10 * 99 * 99 by 100000 is 0.98, 99 * 9999 * 9999 more than 32 bits hold
        Due.is("0.98", grownOf(10, 99), 0);
        Due.is("1", grownOf(10, 100), 1);
        Due.is("1.99", grownOf(10, 141), 1);
        Due.is("2.01", grownOf(10, 142), 2);
        Due.is("98980.2", grownOf(99, 9999), 98980);
        Due.is("WIDE 9999 without PULL", grownOf(0, 9999), 0);
    }

    private static int grownOf(int pull, int wide) {
        PulledCrystal x = pot("wide 0", "pull " + pull, 99999, wide, 900);
        x.grow(1);
        return x.row(0, 3);
    }

    private static void leftByThousand() {
        PulledCrystal x = pot("wide 0", "heat left;pull 10", 300, 1000, 900);
        x.grow(3);
        int[] due = {999, 666, 333};
        for (int row = 0; row < 3; row++) {
            Due.is("left, held to 999", x.row(row, 1), due[row]);
        }
        x = pot("wide 0", "heat 1 if left = 1000;heat 2 if left = 0;heat 3;pull 10", 99999, 9999, 900);
        x.grow(11);
        Due.is("all", x.row(0, 1), 1);
        Due.is("9998.0001", x.row(0, 3), 9998);
        Due.is("19 of 99999 is 0 of a thousand", x.row(10, 1), 2);
        Due.is("LEFT then", x.row(10, 3), 19);
    }

    private static void givesAheadOfGrown() {
        PulledCrystal x = pot("wide 0;gives 100", "pull 10", 200, 1000, 900);
        x.grow(2);
        Due.is("half of 100", x.much(5, 0), 50);
        Due.is("all of 50 + 100", x.much(5, 1), 150);
        Due.is("none in the melt", x.much(5, -1), 0);
        Due.is("ENDED", x.grow(5), 0);
        Due.is("nothing is given any more", x.much(5, -1), 0);
        for (int stuff = 0; stuff < 5; stuff++) {
            Due.is("none of STUFF " + stuff, x.much(stuff, 1), 0);
        }
    }

    private static void growZeroToSixHundred() {
        PulledCrystal x = pot("wide 0", "pull 0", 200, 1000, 900);
        Due.is("-1", x.grow(-1), -1);
        Due.is("0", x.grow(0), 0);
        Due.is("601", x.grow(601), -1);
        Due.is("no ROW yet", x.count(0), 0);
        Due.is("600", x.grow(600), 600);
        x.melt(0);
        Due.is("599, of which its LIFE leaves 300", x.grow(599), 300);
    }

    private static void nothingLeft() {
        PulledCrystal x = pot("wide 0", "pull 10", 200, 1000, 900);
        x.grow(1);
        Due.is("100 LEFT", x.state(), 1);
        x.grow(1);
        Due.is("nothing LEFT", x.state(), 2);
        x = pot("wide 0", "pull 10", 201, 1000, 900);
        x.grow(2);
        Due.is("1 LEFT", x.count(1), 1);
        Due.is("it GROWS", x.state(), 1);
        Due.is("one more", x.grow(9), 1);
        Due.is("GROWN", x.row(2, 3), 1);
        Due.is("nothing LEFT", x.state(), 2);
    }

    private static void wideZero() {
        PulledCrystal x = pot("wide 0 - 99", "pull 10", 200, 199, 900);
        x.grow(1);
        Due.is("WIDE 100", x.state(), 1);
        x.grow(1);
        Due.is("WIDE 1", x.count(2), 1);
        Due.is("it GROWS", x.state(), 1);
        Due.is("one more", x.grow(9), 1);
        Due.is("WIDE 0", x.state(), 3);
        Due.is("the ROW of WIDE 0 is there", x.row(2, 0), 0);
        Due.is("nothing in it", x.row(2, 3), 0);
        Due.is("its PULL", x.row(2, 2), 10);
    }

    private static void sixHundredRows() {
        PulledCrystal x = pot("wide 0", "pull 1", 99999, 20, 900);
        Due.is("599", x.grow(599), 599);
        Due.is("it GROWS", x.state(), 1);
        Due.is("ROW 599 isn't there", x.row(599, 0), -1);
        Due.is("one more", x.grow(600), 1);
        Due.is("600 ROWS", x.state(), 4);
        Due.is("ROW 599", x.row(599, 0), 20);
        Due.is("ROW 600", x.row(600, 0), -1);
        Due.is("no more", x.grow(600), 0);
        Due.is("melt ROW 600", x.melt(600), -1);
        Due.is("fault ROW 599", x.fault(599), true);
        Due.is("fault ROW 600", x.fault(600), false);
        Due.is("melt ROW 599", x.melt(599), 1);
        Due.is("it GROWS", x.state(), 1);
        Due.is("one more", x.grow(600), 1);
        Due.is("600 ROWS", x.state(), 4);
        Due.is("the FAULT is gone", x.row(599, 6), 0);
        Due.is("MINUTES", x.count(6), 601);
    }

    private static void lifeOver() {
        for (int life : new int[] {1, 2, 50, 599}) {
            PulledCrystal x = pot("wide 0", "pull 1", 99999, 20, life);
            Due.is("all but one", x.grow(life - 1), life - 1);
            Due.is("it GROWS", x.state(), 1);
            Due.is("the last", x.grow(600), 1);
            Due.is("LIFE is over", x.state(), 5);
            Due.is("MINUTES", x.count(6), life);
            Due.is("melt all", x.melt(0), life);
            Due.is("it is over still", x.state(), 5);
            Due.is("no more", x.grow(600), 0);
            Due.is("MINUTES", x.count(6), life);
        }
        PulledCrystal x = pot("wide 0", "pull 1", 99999, 20, 10);
        x.grow(9);
        x.melt(8);
        Due.is("one MINUTE is there", x.state(), 1);
        Due.is("that one", x.grow(600), 1);
        Due.is("LIFE is over with 9 ROWS", x.state(), 5);
        Due.is("ROWS", x.count(0), 9);
    }

    private static void lifeOfNineHundred() {
        PulledCrystal x = pot("wide 0", "pull 1", 99999, 20, 900);
        x.grow(600);
        x.melt(0);
        Due.is("till LIFE is over", x.grow(600), 300);
        Due.is("LIFE is over", x.state(), 5);
        Due.is("MINUTES", x.count(6), 900);
        x = pot("wide 0", "pull 1", 99999, 20, 899);
        x.grow(600);
        x.melt(0);
        Due.is("till LIFE is over", x.grow(600), 299);
    }

    private static void firstOfTheseEnds() {
        // the 600th ROW, too, takes the last gram, or has WIDE 0, or is the last of its LIFE
        PulledCrystal x = pot("wide 0", "pull 10 if minute = 599;pull 0", 100, 1000, 600);
        x.grow(600);
        Due.is("nothing LEFT ahead of 600 ROWS and LIFE", x.state(), 2);
        x = pot("wide 0", "pull 10 if minute = 599;pull 0", 101, 1000, 600);
        x.grow(600);
        Due.is("600 ROWS ahead of LIFE", x.state(), 4);
        x.melt(599);
        Due.is("melted back: LIFE", x.state(), 5);
        x = pot("wide 0 - 1000 if minute = 599", "pull 10", 60000, 1000, 600);
        x.grow(600);
        Due.is("WIDE 0 ahead of 600 ROWS and LIFE", x.state(), 3);
        x.melt(599);
        Due.is("melted back: LIFE", x.state(), 5);
        x = pot("wide 0 - 1000 if minute = 4", "pull 10", 60000, 1000, 5);
        x.grow(600);
        Due.is("WIDE 0 ahead of LIFE", x.state(), 3);
        x = pot("wide 0", "pull 10", 500, 1000, 5);
        x.grow(600);
        Due.is("nothing LEFT ahead of LIFE", x.state(), 2);
        x = pot("wide 0", "pull 10", 501, 1000, 5);
        x.grow(600);
        Due.is("LIFE alone", x.state(), 5);
    }

    private static void countsOfNone() {
        PulledCrystal x = Due.with("wide 0", "pull 0");
        for (int what = 0; what < 7; what++) {
            Due.is("0 without a POT " + what, x.count(what), 0);
        }
        Due.is("FURNACES", x.count(7), 1);
        Due.is("MINDERS", x.count(8), 1);
        for (int what : new int[] {-1, 13, -2, 14, Integer.MAX_VALUE, Integer.MIN_VALUE}) {
            Due.is("count " + what, x.count(what), -1);
        }
        x.begin(0, 0, 1, 1, 0, 1, 0, 1, 0);
        Due.is("count -1", x.count(-1), -1);
        Due.is("count 12", x.count(12), 0);
        Due.is("count 13", x.count(13), -1);
    }
}
