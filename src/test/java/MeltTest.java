// Promises 12 (KIND, CLEAN, FAULTED), 15 to 19: melt, fault, thin, faults, holds.
public final class MeltTest {
    public static void main(String[] args) {
        melting();
        meltingAll();
        lifeGoesOn();
        faultsOfRows();
        thinning();
        kinds();
        neckIsNoBody();
        cleanRows();
        leftFaults();
        holding();
        thinnestOfNeck();
        Due.done("MeltTest");
    }

    private static void melting() {
        PulledCrystal x = Due.with("wide 100;gives 1000;swirl 1;late 0", "pull 10 + minute;heat 300 + minute");
        x.stuff(0, 0, 5000);
        x.stuff(0, 1, 300);
        Due.is("melt without a POT", x.melt(0), -1);
        x.begin(0, 0, 5000, 500, 77, 400, 9, 900, 0);
        Due.is("melt without ROWS", x.melt(0), -1);
        x.grow(4);
        long[] behind = {x.much(0, -1), x.much(5, -1), x.count(1)};
        int wide = x.count(2);
        x.grow(3);
        long given = x.much(5, -1) + x.much(5, 4) + x.much(5, 5) + x.much(5, 6);
        Due.is("melt what isn't there", x.melt(7), -1);
        Due.is("melt -1", x.melt(-1), -1);
        Due.is("nothing happened", x.count(0), 7);
        Due.is("melt", x.melt(4), 3);
        Due.is("ROWS", x.count(0), 4);
        Due.is("LEFT", x.count(1), behind[2]);
        Due.is("WIDE", x.count(2), wide);
        Due.is("HEAT", x.count(3), 303);
        Due.is("PULL", x.count(4), 13);
        Due.is("long", x.count(5), 10 + 11 + 12 + 13);
        Due.is("MINUTES done", x.count(6), 7);
        Due.is("STUFF 0 in the melt", x.much(0, -1), behind[0]);
        Due.is("STUFF 5 keeps what it was given", x.much(5, -1), given);
        Due.is("STUFF 5 keeps what it was given", x.much(5, -1), behind[1] + 3000);
        Due.is("ROW 4 is gone", x.row(4, 0), -1);
        Due.is("state", x.state(), 1);
        seedStays();
        wordsBehindMelting();
    }

    private static void wordsBehindMelting() {
        PulledCrystal x = Due.with("wide 7", "heat pull * 10 + long / 10;pull 11 + minute if minute < 5 and heat < 777");
        x.begin(0, 0, 99999, 500, 77, 400, 0, 900, 0);
        x.grow(5);
        x.melt(1);
        Due.is("PULL of ROW 0", x.count(4), 11);
        Due.is("HEAT of ROW 0", x.count(3), 0);
        x.tried(0, 7, 0, 0);
        x.grow(1);
        Due.is("HEAT by PULL and long", x.row(1, 1), 111);
        Due.is("PULL by minute", x.row(1, 2), 12);
        x.melt(0);
        x.grow(1);
        Due.is("HEAT without PULL", x.row(0, 1), 0);
    }

    // The seed is as it is: what comes behind MELTING BACK is not what came at first.
    private static void seedStays() {
        PulledCrystal x = Due.with("swirl 99", "pull 1");
        x.begin(0, 0, 5000, 500, 77, 400, 0, 900, 0);
        x.grow(2);
        Due.is("the first swirl: 0", x.row(0, 0), 301);
        Due.is("the second swirl: 175", x.row(1, 0), 377);
        x.melt(0);
        x.grow(1);
        // x behind 1406932606 is 654583775, which by 65536 is 9988: of 199 the rest is 38
        Due.is("the third swirl: 38", x.row(0, 0), 400 - 99 + 38);
    }

    private static void meltingAll() {
        PulledCrystal x = Due.with("wide 100", "pull 10 + minute if minute < 5;heat 300 + minute if minute < 5");
        x.stuff(1, 0, 123456789);
        x.begin(0, 0, 5000, 500, 77, 400, 9, 900, 0);
        x.grow(5);
        Due.is("melt all", x.melt(0), 5);
        int[] due = {0, 5000, 400, 77, 0, 0, 5};
        for (int what = 0; what < 7; what++) {
            Due.is("count " + what, x.count(what), due[what]);
        }
        Due.is("STUFF 1", x.much(1, -1), 123456789);
        x.grow(1);
        Due.is("minute is the ROW's number", x.row(0, 1), 300);
        Due.is("seen is that at the beginning", x.row(0, 0), 500);
    }

    private static void lifeGoesOn() {
        PulledCrystal x = Due.with("wide 0", "pull 10");
        x.begin(0, 0, 1000, 500, 77, 1000, 9, 13, 0);
        x.grow(10);
        Due.is("nothing LEFT", x.state(), 2);
        Due.is("melt an ENDED one", x.melt(9), 1);
        Due.is("it GROWS again", x.state(), 1);
        Due.is("grow again", x.grow(5), 1);
        Due.is("nothing LEFT", x.state(), 2);
        x.melt(8);
        Due.is("grow again", x.grow(5), 2);
        Due.is("nothing LEFT is ahead of LIFE", x.state(), 2);
        Due.is("13 MINUTES done", x.count(6), 13);
        Due.is("melt", x.melt(2), 8);
        Due.is("its LIFE is over", x.state(), 5);
        Due.is("it grows no more", x.grow(5), 0);
        Due.is("melt again", x.melt(0), 2);
        Due.is("its LIFE is over", x.state(), 5);
        Due.is("LEFT", x.count(1), 1000);
        x.begin(0, 0, 99999, 500, 77, 1, 9, 900, 0);
        x.grow(600);
        Due.is("600 ROWS", x.state(), 4);
        x.melt(300);
        Due.is("it GROWS again", x.state(), 1);
        Due.is("grow till LIFE is over", x.grow(600), 300);
        Due.is("600 ROWS are ahead of LIFE", x.state(), 4);
    }

    private static void faulted(PulledCrystal x, int from) {
        for (int row = 0; row < x.count(0); row++) {
            Due.is("FAULTED " + row, x.row(row, 6), row >= from ? 1 : 0);
        }
    }

    private static void faultsOfRows() {
        PulledCrystal x = Due.with("wide 0", "pull 10");
        Due.is("fault without a POT", x.fault(0), false);
        x.begin(0, 0, 9000, 500, 77, 500, 9, 900, 0);
        Due.is("fault without a ROW", x.fault(0), false);
        x.grow(6);
        Due.is("fault -1", x.fault(-1), false);
        Due.is("fault 6", x.fault(6), false);
        faulted(x, 6);
        Due.is("fault 4", x.fault(4), true);
        Due.is("fault 4 again", x.fault(4), false);
        faulted(x, 4);
        Due.is("fault 2", x.fault(2), true);
        Due.is("fault 3, though FAULTED", x.fault(3), true);
        faulted(x, 2);
        x.grow(2);
        faulted(x, 2);
        Due.is("melt", x.melt(3), 5);
        faulted(x, 2);
        x.melt(2);
        x.grow(4);
        faulted(x, 6);
        Due.is("fault 2 is gone", x.fault(2), true);
        x.begin(0, 0, 9000, 500, 77, 500, 9, 900, 0);
        x.grow(4);
        faulted(x, 4);
    }

    private static void thinning() {
        PulledCrystal x = new PulledCrystal();
        Due.is("thin 1", x.thin(1), 30);
        Due.is("thin 0", x.thin(0), -1);
        Due.is("thin 10000", x.thin(10000), -1);
        Due.is("thin -5", x.thin(-5), -1);
        Due.is("thin 9999", x.thin(9999), 1);
        Due.is("thin 30", x.thin(30), 9999);
    }

    private static void kinds() {
        PulledCrystal x = Due.ofWides(1009, 0, 1, 30, 31, 908, 909, 30, 908);
        int[] due = {0, 1, 1, 2, 0, 3};
        for (int row = 0; row < due.length; row++) {
            Due.is("KIND of ROW " + row, x.row(row, 4), due[row]);
        }
        x = Due.ofWides(1009, 0, 1, 1110, 1109, 909, 1110, 31, 30);
        due = new int[] {1, 2, 2, 3, 3, 0};
        for (int row = 0; row < due.length; row++) {
            Due.is("KIND of ROW " + row, x.row(row, 4), due[row]);
        }
    }

    private static void neckIsNoBody() {
        PulledCrystal x = Due.ofWides(100, 0, 1, 100, 120, 95, 89);
        Due.is("BODY", x.row(0, 4), 2);
        Due.is("TAIL", x.row(1, 4), 3);
        x.thin(105);
        Due.is("NECK rather than BODY", x.row(0, 4), 0);
        Due.is("no BODY ahead of it", x.row(1, 4), 1);
        Due.is("NECK", x.row(2, 4), 0);
        x.thin(94);
        Due.is("BODY again", x.row(0, 4), 2);
        Due.is("TAIL again", x.row(1, 4), 3);
        Due.is("NECK", x.row(3, 4), 0);
        x = Due.ofWides(9, 0, 1, 9, 8, 10, 9);
        x.thin(1);
        Due.is("a tenth of 9 is 0", x.row(0, 4), 2);
        Due.is("8", x.row(1, 4), 3);
        Due.is("10", x.row(2, 4), 3);
    }

    private static void clean(PulledCrystal x, int from) {
        for (int row = 0; row < x.count(0); row++) {
            Due.is("CLEAN " + row, x.row(row, 5), row >= from ? 1 : 0);
        }
    }

    private static void cleanRows() {
        clean(Due.ofWides(100, 0, 5, 100, 20, 100, 20), 0);
        clean(Due.ofWides(100, 1, 5, 100, 20, 100, 20), 2);
        clean(Due.ofWides(100, 5, 5, 100, 30, 31, 20), 2);
        clean(Due.ofWides(100, 6, 5, 100, 20, 100, 20, 40), 4);
        clean(Due.ofWides(100, 10, 5, 20, 20, 20, 20), 2);
        clean(Due.ofWides(100, 11, 5, 100, 20, 100, 20, 40), 5);
        PulledCrystal x = Due.ofWides(100, 6, 5, 100, 20, 100, 20, 40);
        x.thin(100);
        clean(x, 2);
        x.thin(19);
        clean(x, 5);
    }

    private static void leftFaults() {
        PulledCrystal x = Due.with("wide 0", "pull 10");
        Due.is("faults without a POT", x.faults(), -1);
        x.begin(0, 0, 9000, 500, 77, 500, 9, 900, 7);
        Due.is("faults without ROWS", x.faults(), 7);
        Due.is("left", Due.ofWides(100, 0, 5, 100, 20, 100, 20).faults(), 0);
        Due.is("left", Due.ofWides(100, 12, 5, 100, 20, 100, 20).faults(), 2);
        Due.is("left", Due.ofWides(100, 12, 5, 100, 31, 100, 30).faults(), 7);
        Due.is("left", Due.ofWides(100, 12, 5, 30, 31, 100, 30).faults(), 2);
        Due.is("left", Due.ofWides(100, 9, 5, 100, 20, 100, 20).faults(), 0);
        x = Due.ofWides(100, 12, 5, 100, 20, 100, 20);
        x.thin(100);
        Due.is("left", x.faults(), 0);
        x.thin(5);
        Due.is("left", x.faults(), 12);
        x.thin(20);
        x.melt(3);
        Due.is("left", x.faults(), 7);
    }

    // With PULL 10 a ROW of WIDE 100 is 1 gram, of 200 4, of 1000 100.
    private static void holding() {
        PulledCrystal x = Due.with("wide 0", "pull 10");
        Due.is("holds without a POT", x.holds(), -1);
        x.begin(0, 0, 9000, 500, 77, 500, 9, 900, 7);
        Due.is("holds without a NECK", x.holds(), -2);
        Due.is("no NECK", Due.ofWides(100, 0, 10, 1000, 1000, 31).holds(), -2);
        Due.is("30 bears 90", Due.ofWides(100, 0, 10, 1000, 30, 900, 300, 100).holds(), 4);
        Due.is("30 bears 90", Due.ofWides(100, 0, 10, 1000, 30, 900, 299).holds(), -2);
        Due.is("30 bears 90", Due.ofWides(100, 0, 10, 1000, 30, 1000, 299).holds(), 2);
        Due.is("the last ROW", Due.ofWides(100, 0, 10, 1000, 900, 299, 30).holds(), -2);
        Due.is("31 bears 96, not 96.1", withThin(31, Due.ofWides(100, 0, 10, 31, 900, 300, 245)).holds(), -2);
        Due.is("31 bears 96, not 96.1", withThin(31, Due.ofWides(100, 0, 10, 31, 900, 300, 265)).holds(), 3);
        // 9, 990 and 10 grams
        Due.is("100 bears 1000 and not itself", withThin(100, Due.ofWides(100, 0, 99, 100, 1000, 105)).holds(), -2);
        x = Due.ofWides(100, 0, 10, 1000, 30, 900, 300, 100);
        x.thin(29);
        Due.is("no NECK any more", x.holds(), -2);
    }

    private static PulledCrystal withThin(int thin, PulledCrystal x) {
        x.thin(thin);
        return x;
    }

    private static void thinnestOfNeck() {
        Due.is("20 bears 40", Due.ofWides(100, 0, 10, 30, 20, 600, 200, 100).holds(), 4);
        Due.is("20 bears 40", Due.ofWides(100, 0, 10, 20, 30, 600, 200, 100).holds(), 4);
        Due.is("the first 20", Due.ofWides(100, 0, 10, 20, 700, 20, 500).holds(), 1);
        Due.is("the thinnest, not the first", Due.ofWides(100, 0, 10, 21, 700, 20, 500).holds(), -2);
        Due.is("a NECK of 0", Due.ofWides(100, 0, 10, 30, 500, 0).holds(), -2);
        Due.is("1 bears 0", Due.ofWides(100, 0, 10, 30, 1, 50, 99, 100).holds(), 4);
    }
}
