// Promises 36 and 37: image, back.
public final class ImageTest {
    private static final int ALL = 1000000000;

    public static void main(String[] args) {
        wrongImages();
        imageOfNothing();
        potAndRows();
        seedMinderFaults();
        toldThings();
        whatStays();
        several();
        Due.done("ImageTest");
    }

    private static void wrongImages() {
        PulledCrystal x = new PulledCrystal();
        Due.is("image -1", x.image(-1), -1);
        Due.is("image 4", x.image(4), -1);
        Due.is("back -1", x.back(-1), -1);
        Due.is("back 4", x.back(4), -1);
        x.image(2);
        Due.is("back never made", x.back(1), -1);
        Due.is("back never made", x.back(3), -1);
        Due.is("back made", x.back(2), 0);
    }

    private static void imageOfNothing() {
        PulledCrystal x = Due.with("wide 10", "pull 10");
        Due.is("image without a POT", x.image(0), 0);
        x.stuff(0, 0, 50);
        x.thin(7);
        x.begin(0, 0, 5000, 70, 5, 320, 0, 900, 3);
        x.grow(5);
        x.fault(3);
        Due.is("image 1", x.image(1), 5);
        Due.is("back to none", x.back(0), 0);
        Due.is("state", x.state(), 0);
        for (int what = 0; what < 7; what++) {
            Due.is("count " + what, x.count(what), 0);
        }
        Due.is("grow", x.grow(1), -1);
        Due.is("minds", x.minds(0), false);
        Due.is("faults", x.faults(), -1);
        Due.is("holds", x.holds(), -1);
        Due.is("in the melt", x.much(0, -1), 0);
        Due.is("row", x.row(0, 0), -1);
        Due.is("melt", x.melt(0), -1);
        Due.is("thin", x.thin(8), 30);
        Due.is("put", x.stuff(0, 0, 9), 0);
        Due.is("back to the POT", x.back(1), 5);
        Due.is("state", x.state(), 1);
        Due.is("FAULTED", x.row(3, 6), 1);
        Due.is("not FAULTED", x.row(2, 6), 0);
        Due.is("thin", x.thin(8), 7);
        Due.is("put", x.stuff(0, 0, 9), 50);
    }

    private static void potAndRows() {
        PulledCrystal x = Due.with("wide 10;gives 100", "pull 10;heat 300 + minute");
        x.stuff(0, 0, 50000);
        x.begin(0, 0, 5000, 70, 5, 320, 0, 12, 3);
        x.grow(5);
        long[] due = all(x);
        Due.is("image", x.image(3), 5);
        same(x, due);
        x.grow(20);
        Due.is("state", x.state(), 5);
        Due.is("back", x.back(3), 5);
        same(x, due);
        Due.is("state", x.state(), 1);
        x.melt(1);
        Due.is("back", x.back(3), 5);
        same(x, due);
        x.begin(0, 0, 999, 1000, 7, 333, 5, 2, 0);
        x.grow(600);
        Due.is("back", x.back(3), 5);
        same(x, due);
        Due.is("LIFE", x.grow(600), 7);
        Due.is("image of an ENDED one", x.image(0), 12);
        x.melt(0);
        Due.is("it is over", x.state(), 5);
        x.back(3);
        x.melt(0);
        Due.is("it GROWS", x.state(), 1);
        Due.is("LEFT", x.count(1), 5000);
        Due.is("WIDE", x.count(2), 320);
        Due.is("HEAT", x.count(3), 5);
    }

    private static long[] all(PulledCrystal x) {
        long[] all = new long[200];
        int n = 0;
        for (int what = 0; what < 7; what++) {
            all[n++] = x.count(what);
        }
        for (int stuff = 0; stuff < 6; stuff++) {
            all[n++] = x.much(stuff, -1);
        }
        for (int row = 0; row < 6; row++) {
            for (int what = 0; what < 7; what++) {
                all[n++] = x.row(row, what);
            }
            for (int stuff = 0; stuff < 6; stuff++) {
                all[n++] = x.much(stuff, row);
            }
        }
        all[n++] = x.state();
        all[n++] = x.faults();
        return all;
    }

    private static void same(PulledCrystal x, long[] due) {
        long[] now = all(x);
        for (int k = 0; k < due.length; k++) {
            Due.is("as in the image " + k, now[k], due[k]);
        }
    }

    private static void seedMinderFaults() {
        PulledCrystal x = Due.with("swirl 99", "pull 1");
        Due.minder(x, "pull 2");
        Due.furnace(x, "wide 7");
        x.begin(0, 0, 5000, 70, 5, 3200, 77, 900, 3);
        x.grow(5);
        x.fault(4);
        x.image(0);
        x.grow(3);
        int[] wides = {x.row(5, 0), x.row(6, 0), x.row(7, 0)};
        x.fault(1);
        x.minds(1);
        x.grow(1);
        x.begin(1, 1, 5000, 70, 5, 3200, 77, 900, 3);
        x.back(0);
        Due.is("FAULTED", x.row(3, 6), 0);
        Due.is("FAULTED", x.row(4, 6), 1);
        Due.is("a FAULT that isn't told", x.fault(1), true);
        Due.is("a FAULT that is told", x.fault(4), false);
        x.grow(3);
        for (int row = 5; row < 8; row++) {
            Due.is("the seed and the FURNACE", x.row(row, 0), wides[row - 5]);
            Due.is("the MINDER", x.row(row, 2), 1);
        }
    }

    private static void toldThings() {
        PulledCrystal x = Due.with("wide 0", "pull 10");
        for (int stuff = 0; stuff < 6; stuff++) {
            x.stuff(stuff, 0, 100 + stuff);
            x.stuff(stuff, 1, 200 + stuff);
        }
        x.begin(0, 0, 1000, 70, 5, 1000, 0, 900, 0);
        x.thin(77);
        x.stuff(5, 1, 900);
        x.image(1);
        for (int stuff = 0; stuff < 6; stuff++) {
            x.stuff(stuff, 0, 5);
            x.stuff(stuff, 1, 6);
        }
        x.thin(5);
        x.begin(0, 0, 1000, 70, 5, 1000, 0, 900, 0);
        x.back(1);
        Due.is("thin", x.thin(77), 77);
        for (int stuff = 0; stuff < 6; stuff++) {
            Due.is("put", x.stuff(stuff, 0, 7), 100 + stuff);
            Due.is("share", x.stuff(stuff, 1, 8), stuff == 5 ? 900 : 200 + stuff);
        }
        x.grow(1);
        Due.is("the POT's own share of a tenth", x.much(5, 0), 10 * 205 / 1000);
        Due.is("back again", x.back(1), 0);
        Due.is("put", x.stuff(3, 0, 7), 103);
        Due.is("share", x.stuff(3, 1, 7), 203);
    }

    private static void whatStays() {
        PulledCrystal x = Due.with("wide 0", "pull 10");
        x.image(0);
        Due.furnace(x, "wide 1");
        Due.minder(x, "pull 1");
        x.want(0, 0, ALL, 0, 1, 1);
        x.slice(0, 0, 0, 0);
        x.ring(0, 0);
        Due.tape(x, "wide");
        x.back(0);
        int[] due = {2, 2, 1, 1, 4, 1};
        for (int what = 7; what < 13; what++) {
            Due.is("count " + what, x.count(what), due[what - 7]);
        }
    }

    private static void several() {
        PulledCrystal x = Due.with("wide 10", "pull 10");
        x.begin(0, 0, 99999, 70, 5, 1000, 0, 900, 0);
        for (int k = 0; k < 4; k++) {
            x.grow(1);
            Due.is("image " + k, x.image(k), k + 1);
        }
        for (int k = 3; k >= 0; k--) {
            Due.is("back " + k, x.back(k), k + 1);
            Due.is("WIDE", x.count(2), 1010 + 10 * k);
        }
        x.image(2);
        Due.is("image 2 is another now", x.back(2), 1);
        Due.is("image 3 is as it was", x.back(3), 4);
        Due.is("image 0 is as it was", x.back(0), 1);
    }
}
