// Promises 36 and 37 and IMAGES in Terms, V: each sentence with a bound, on both sides of it.
public final class ImageBoundsTest {
    private static final int ALL = 1000000000;

    public static void main(String[] args) {
        imagesZeroToThree();
        imagesOnTheirOwn();
        neverMade();
        madeWhereNothingWasTold();
        allOfARow();
        sixHundredRows();
        noRows();
        endedOnes();
        madeAgain();
        goneBackToAgain();
        minutesAndLife();
        faultsOfTheImage();
        thinAndStuffsAsTold();
        whatIsToldBehindStays();
        trialsLeaveImages();
        Due.done("ImageBoundsTest");
    }

    private static PulledCrystal pot(String furnace, String minder, int grams, int wide, int life) {
        PulledCrystal x = Due.with(furnace, minder);
        x.begin(0, 0, grams, 400, 5, wide, 7, life, 9);
        return x;
    }

    private static void imagesZeroToThree() {
        PulledCrystal x = pot("wide 1", "pull 1", 9000, 300, 900);
        for (int k = 0; k < 4; k++) {
            Due.is("image", x.image(k), k);
            x.grow(1);
        }
        for (int k : new int[] {-1, 4, 5, Integer.MAX_VALUE, Integer.MIN_VALUE}) {
            Due.is("image " + k, x.image(k), -1);
            Due.is("back " + k, x.back(k), -1);
            Due.is("nothing happens", x.count(0), 4);
        }
        for (int k = 0; k < 4; k++) {
            Due.is("back", x.back(k), k);
            Due.is("ROWS", x.count(0), k);
        }
    }

    private static void imagesOnTheirOwn() {
        for (int made = 0; made < 4; made++) {
            PulledCrystal x = pot("wide 1", "pull 1", 9000, 300, 900);
            x.grow(5);
            x.image(made);
            x.grow(1);
            for (int k = 0; k < 4; k++) {
                Due.is("back " + k + " of " + made, x.back(k), k == made ? 5 : -1);
                Due.is("ROWS", x.count(0), k >= made ? 5 : 6);
            }
        }
    }

    private static void neverMade() {
        PulledCrystal x = new PulledCrystal();
        for (int k = -1; k < 5; k++) {
            Due.is("back " + k, x.back(k), -1);
        }
        Due.furnace(x, "wide 1");
        Due.minder(x, "pull 1");
        x.begin(0, 0, 9000, 400, 5, 300, 7, 900, 9);
        x.grow(3);
        for (int k = -1; k < 5; k++) {
            Due.is("back " + k, x.back(k), -1);
        }
        Due.is("ROWS", x.count(0), 3);
        Due.is("it GROWS", x.state(), 1);
    }

    private static void madeWhereNothingWasTold() {
        PulledCrystal x = new PulledCrystal();
        Due.is("image", x.image(3), 0);
        Due.is("back", x.back(3), 0);
        Due.is("state", x.state(), 0);
        Due.furnace(x, "wide 1;gives 9");
        Due.minder(x, "pull 1");
        x.stuff(4, 0, 77);
        x.stuff(4, 1, 78);
        x.thin(79);
        x.begin(0, 0, 9000, 400, 5, 300, 7, 900, 9);
        x.grow(3);
        Due.is("back", x.back(3), 0);
        Due.is("no POT", x.state(), 0);
        for (int what = 0; what < 7; what++) {
            Due.is("count " + what, x.count(what), 0);
        }
        Due.is("FURNACES stay", x.count(7), 1);
        Due.is("in the melt", x.much(4, -1) + x.much(5, -1), 0);
        Due.is("thin", x.thin(79), 30);
        Due.is("put", x.stuff(4, 0, 77), 0);
        Due.is("share", x.stuff(4, 1, 78), 1000);
        Due.is("grow", x.grow(1), -1);
        Due.is("melt", x.melt(0), -1);
        Due.is("row", x.row(0, 0), -1);
        Due.is("image of no POT again", x.image(0), 0);
        Due.is("begin", x.begin(0, 0, 9000, 400, 5, 300, 7, 900, 9), true);
        Due.is("in the melt", x.much(4, -1), 77);
    }

    // Every number of every ROW, of which the POT begun then has others.
    private static void allOfARow() {
        PulledCrystal x = pot("wide 10;gives 70", "pull 10 + minute;heat 100 + minute", 9000, 300, 900);
        x.stuff(1, 0, 50000);
        x.begin(0, 0, 9000, 320, 5, 300, 7, 900, 9);
        x.grow(5);
        long[] due = numbers(x);
        x.image(2);
        x.minds(Due.minder(x, "pull 3;heat 7"));
        x.melt(0);
        x.grow(8);
        Due.is("back", x.back(2), 5);
        same(x, due);
        Due.furnace(x, "wide 0 - 1");
        x.begin(1, 1, 800, 90, 8, 100, 9, 30, 0);
        x.grow(9);
        Due.is("back", x.back(2), 5);
        same(x, due);
        x.melt(0);
        Due.is("HEAT at the beginning", x.count(3), 5);
        Due.is("WIDE at the beginning", x.count(2), 300);
        Due.is("LEFT", x.count(1), 9000);
        Due.is("STUFF 1", x.much(1, -1), 50000);
    }

    private static long[] numbers(PulledCrystal x) {
        long[] all = new long[90];
        int n = 0;
        for (int what = 0; what < 7; what++) {
            all[n++] = x.count(what);
        }
        for (int row = 0; row < 6; row++) {
            for (int what = 0; what < 7; what++) {
                all[n++] = x.row(row, what);
            }
            all[n++] = x.much(1, row);
            all[n++] = x.much(5, row);
        }
        all[n++] = x.much(1, -1);
        all[n++] = x.much(5, -1);
        all[n++] = x.faults();
        all[n++] = x.state();
        return all;
    }

    private static void same(PulledCrystal x, long[] due) {
        long[] now = numbers(x);
        for (int k = 0; k < due.length; k++) {
            Due.is("as it was " + k, now[k], due[k]);
        }
    }

    private static void sixHundredRows() {
        PulledCrystal x = pot("wide 1", "pull 1;heat minute", 99999, 300, 900);
        x.grow(600);
        x.fault(599);
        Due.is("image", x.image(0), 600);
        Due.is("melt", x.melt(1), 599);
        x.grow(2);
        Due.is("back", x.back(0), 600);
        Due.is("600 ROWS", x.state(), 4);
        Due.is("WIDE of ROW 599", x.row(599, 0), 900);
        Due.is("HEAT of ROW 599", x.row(599, 1), 599);
        Due.is("ROW 599 is FAULTED", x.row(599, 6), 1);
        Due.is("ROW 598 is not", x.row(598, 6), 0);
        Due.is("grow", x.grow(1), 0);
        Due.is("ROW 600", x.row(600, 0), -1);
    }

    private static void noRows() {
        PulledCrystal x = pot("wide 1", "pull 1", 9000, 300, 900);
        Due.is("image without ROWS", x.image(1), 0);
        x.grow(4);
        x.fault(0);
        Due.is("back", x.back(1), 0);
        Due.is("a POT", x.state(), 1);
        Due.is("no ROW 0", x.row(0, 0), -1);
        Due.is("WIDE", x.count(2), 300);
        x.grow(1);
        Due.is("no FAULT", x.row(0, 6), 0);
    }

    private static void endedOnes() {
        PulledCrystal x = pot("wide 0", "pull 10", 300, 1000, 900);
        Due.is("image of a growing one", x.image(0), 0);
        x.grow(600);
        Due.is("image of an ENDED one", x.image(1), 3);
        Due.is("back", x.back(0), 0);
        Due.is("it GROWS", x.state(), 1);
        Due.is("back", x.back(1), 3);
        Due.is("nothing LEFT", x.state(), 2);
        Due.is("grow", x.grow(1), 0);
        x.begin(0, 0, 300, 400, 5, 1000, 7, 2, 0);
        x.grow(600);
        x.image(2);
        x.back(1);
        Due.is("nothing LEFT", x.state(), 2);
        x.back(2);
        Due.is("its LIFE is over", x.state(), 5);
        x.melt(0);
        Due.is("its LIFE is over", x.state(), 5);
        x.back(1);
        x.melt(0);
        Due.is("it GROWS", x.state(), 1);
    }

    private static void madeAgain() {
        PulledCrystal x = pot("wide 1", "pull 1", 9000, 300, 900);
        x.grow(6);
        Due.is("image", x.image(0), 6);
        x.melt(2);
        Due.is("image again", x.image(0), 2);
        x.grow(3);
        Due.is("back", x.back(0), 2);
        Due.is("WIDE", x.count(2), 302);
        Due.is("the ROWS behind are gone", x.row(2, 0), -1);
        Due.is("MINUTES", x.count(6), 6);
    }

    private static void goneBackToAgain() {
        PulledCrystal x = pot("swirl 40", "pull 1", 9000, 300, 900);
        x.grow(6);
        x.image(0);
        x.grow(5);
        int[] wides = new int[5];
        for (int row = 6; row < 11; row++) {
            wides[row - 6] = x.row(row, 0);
        }
        for (int n = 0; n < 4; n++) {
            Due.is("back", x.back(0), 6);
            Due.is("grow", x.grow(5), 5);
            for (int row = 6; row < 11; row++) {
                Due.is("by the same seed", x.row(row, 0), wides[row - 6]);
            }
        }
        Due.is("back", x.back(0), 6);
        Due.is("an IMAGE of an IMAGE", x.image(1), 6);
        x.grow(1);
        x.image(0);
        Due.is("back", x.back(1), 6);
        x.grow(1);
        Due.is("by the same seed", x.row(6, 0), wides[0]);
    }

    private static void minutesAndLife() {
        PulledCrystal x = pot("wide 1", "pull 1", 9000, 300, 10);
        x.grow(6);
        x.melt(1);
        x.image(0);
        Due.is("till its LIFE is over", x.grow(600), 4);
        x.back(0);
        Due.is("MINUTES", x.count(6), 6);
        Due.is("till its LIFE is over again", x.grow(600), 4);
        Due.is("MINUTES", x.count(6), 10);
        Due.is("its LIFE is over", x.state(), 5);
    }

    private static void faultsOfTheImage() {
        PulledCrystal x = pot("wide 1", "pull 1", 9000, 300, 900);
        x.grow(6);
        x.fault(4);
        x.image(0);
        x.fault(2);
        x.image(1);
        x.melt(0);
        x.grow(6);
        x.back(0);
        Due.is("ROW 3", x.row(3, 6), 0);
        Due.is("ROW 4", x.row(4, 6), 1);
        Due.is("told already", x.fault(4), false);
        x.back(1);
        Due.is("ROW 1", x.row(1, 6), 0);
        Due.is("ROW 2", x.row(2, 6), 1);
        Due.is("told already", x.fault(4), false);
        Due.is("told already", x.fault(2), false);
        Due.is("not told", x.fault(3), true);
        x.back(0);
        Due.is("not told", x.fault(3), true);
        Due.is("not told", x.fault(2), true);
    }

    private static void thinAndStuffsAsTold() {
        PulledCrystal x = pot("wide 0", "pull 10", 1000, 1000, 900);
        x.thin(1);
        x.image(0);
        x.thin(9999);
        x.stuff(0, 0, 999999999);
        x.stuff(0, 1, 0);
        x.stuff(5, 0, 3);
        x.stuff(5, 1, 2000);
        x.image(1);
        x.back(0);
        Due.is("thin", x.thin(1), 1);
        Due.is("put", x.stuff(0, 0, 0), 0);
        Due.is("share", x.stuff(0, 1, 1000), 1000);
        Due.is("share", x.stuff(5, 1, 1000), 1000);
        x.back(1);
        Due.is("thin", x.thin(1), 9999);
        x.begin(0, 0, 1000, 400, 5, 1000, 7, 900, 9);
        Due.is("put into the next POT", x.much(0, -1), 999999999);
        x.grow(1);
        Due.is("by the share told", x.much(0, 0), 0);
        Due.is("put", x.stuff(5, 0, 0), 3);
        Due.is("share", x.stuff(5, 1, 0), 2000);
    }

    private static void whatIsToldBehindStays() {
        PulledCrystal x = pot("wide 0", "pull 10", 1000, 320, 900);
        x.grow(2);
        x.image(0);
        Due.minder(x, "pull 20");
        Due.furnace(x, "wide 5");
        x.want(0, 0, ALL, 0, 10, 4);
        x.slice(0, 0, 5, 0);
        x.ring(0, 327);
        Due.tape(x, "wide 77");
        x.back(0);
        int[] due = {2, 2, 1, 1, 7, 1};
        for (int what = 7; what < 13; what++) {
            Due.is("count " + what, x.count(what), due[what - 7]);
        }
        Due.is("the WANT", x.why(1, 0), 1);
        Due.is("the SLICE", x.span(0, 2), 0);
        Due.is("the RING", x.awry(0, 0), 7);
        Due.is("the MINDER", x.minds(1), true);
        x.grow(1);
        Due.is("PULL", x.row(2, 2), 20);
        Due.is("the TAPE", x.furnace(), 2);
        x.begin(2, 0, 1000, 400, 5, 300, 7, 900, 0);
        x.grow(1);
        Due.is("WIDE", x.count(2), 377);
        Due.is("the WANT", x.cut(), 40);
    }

    private static void trialsLeaveImages() {
        PulledCrystal x = pot("swirl 40", "pull 1", 9000, 300, 900);
        x.grow(6);
        x.fault(3);
        x.image(0);
        x.choice(9, 0);
        x.tried(0, 50, 99, 0);
        x.best(9);
        x.far(0, 9, 50);
        x.grow(3);
        int wide = x.count(2);
        x.back(0);
        x.choice(300, 0);
        x.best(1);
        x.grow(3);
        Due.is("WIDE", x.count(2), wide);
    }
}
