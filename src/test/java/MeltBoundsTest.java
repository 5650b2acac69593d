// Promises 12 and 15 to 19 and Terms, III: each sentence with a bound, on both sides of it.
public final class MeltBoundsTest {
    public static void main(String[] args) {
        rowsThatAreThere();
        meltingToEachRow();
        meltingTheOnlyRow();
        meltingEnded();
        seedAndGivesStay();
        leastOfTheFaults();
        faultsOfRowsThatAreGone();
        faultToldAlready();
        thinOneToMost();
        neckAtThin();
        asManyFaultsAsPull();
        cleanBehindTheLastFault();
        allCleanWithoutFaults();
        holdsTillThereIsMore();
        holdsAtTheBounds();
        holdsByRowsThatAreThere();
        kindWithinATenth();
        leastKindFirst();
        bodyAheadOfIt();
        Due.done("MeltBoundsTest");
    }

    private static PulledCrystal pot(String furnace, String minder, int grams, int wide, int faults) {
        PulledCrystal x = Due.with(furnace, minder);
        x.begin(0, 0, grams, 400, 5, wide, 0, 900, faults);
        return x;
    }

    private static void rowsThatAreThere() {
        PulledCrystal x = pot("wide 10", "pull 10;heat minute", 5000, 300, 0);
        for (int what = 0; what < 7; what++) {
            Due.is("no ROW 0 yet", x.row(0, what), -1);
        }
        x.grow(3);
        int[][] due = {{310, 0, 10, 9, 1, 1, 0}, {320, 1, 10, 10, 1, 1, 0}, {330, 2, 10, 10, 1, 1, 0}};
        for (int what = 0; what < 7; what++) {
            for (int row = 0; row < 3; row++) {
                Due.is("row " + row + " " + what, x.row(row, what), due[row][what]);
            }
            Due.is("row -1 " + what, x.row(-1, what), -1);
            Due.is("row 3 " + what, x.row(3, what), -1);
        }
        Due.is("what -1", x.row(2, -1), -1);
        Due.is("what 7", x.row(2, 7), -1);
        x.melt(2);
        Due.is("row 2 is gone", x.row(2, 0), -1);
        Due.is("row 1", x.row(1, 0), 320);
        Due.is("much of the first that is gone", x.much(0, 2), -1);
        Due.is("parts of the first that is gone", x.parts(0, 2), -1);
        Due.is("much of the last", x.much(0, 1), 0);
        Due.is("parts of the last", x.parts(0, 1), 0);
        Due.is("wander to the first that is gone", x.wander(0, 2, 0), -1);
        Due.is("whose of the first that is gone", x.whose(2), -2);
        Due.is("whose of the last", x.whose(1), -1);
    }

    private static void meltingToEachRow() {
        for (int to = 0; to < 6; to++) {
            PulledCrystal x = pot("wide 10;gives 50", "pull 10 + minute;heat 100 + minute", 5000, 300, 0);
            x.stuff(2, 0, 7000);
            x.begin(0, 0, 5000, 400, 5, 300, 0, 900, 0);
            x.grow(to);
            long[] then = {x.count(0), x.count(1), x.count(2), x.count(3), x.count(4), x.count(5), x.much(2, -1)};
            long given = x.much(5, -1);
            x.grow(6 - to);
            Due.is("behind the last", x.melt(6), -1);
            Due.is("ahead of the first", x.melt(-1), -1);
            Due.is("to " + to, x.melt(to), 6 - to);
            for (int what = 0; what < 6; what++) {
                Due.is("count " + what, x.count(what), then[what]);
            }
            Due.is("STUFF 2", x.much(2, -1), then[6]);
            Due.is("STUFF 5 with what was given", x.much(5, -1), given + 50 * (6 - to));
            Due.is("MINUTES", x.count(6), 6);
            Due.is("it GROWS", x.state(), 1);
            Due.is("ROW " + to + " is gone", x.melt(to), -1);
        }
    }

    private static void meltingTheOnlyRow() {
        PulledCrystal x = pot("wide 10", "pull 10 + pull;heat 99 + heat", 5000, 300, 0);
        for (int n = 0; n < 3; n++) {
            x.grow(1);
            Due.is("PULL was 0 ahead", x.row(0, 2), 10);
            Due.is("HEAT was 5 ahead", x.row(0, 1), 104);
            Due.is("WIDE was 300 ahead", x.row(0, 0), 310);
            Due.is("melt", x.melt(0), 1);
            Due.is("melt again", x.melt(0), -1);
        }
    }

    private static void meltingEnded() {
        PulledCrystal x = pot("wide 0", "pull 10", 300, 1000, 0);
        x.grow(9);
        Due.is("nothing LEFT", x.state(), 2);
        x.melt(2);
        Due.is("it GROWS", x.state(), 1);
        Due.is("LEFT", x.count(1), 100);
        x = pot("wide 0 - 100 if minute = 3", "pull 10", 300, 100, 0);
        x.grow(9);
        Due.is("WIDE 0", x.state(), 3);
        x.melt(3);
        Due.is("it GROWS", x.state(), 1);
        Due.is("WIDE of ROW 2", x.count(2), 100);
        Due.is("to WIDE 0 again", x.grow(9), 1);
        x.melt(0);
        Due.is("WIDE at the beginning", x.count(2), 100);
        x = pot("wide 0", "pull 1", 300, 10, 0);
        x.grow(600);
        Due.is("600 ROWS", x.state(), 4);
        x.melt(598);
        Due.is("it GROWS", x.state(), 1);
        Due.is("to 600 ROWS again", x.grow(9), 2);
    }

    private static void seedAndGivesStay() {
        PulledCrystal x = pot("swirl 99;gives 7", "pull 1", 9000, 5000, 0);
        PulledCrystal z = pot("swirl 99;gives 7", "pull 1", 9000, 5000, 0);
        x.grow(3);
        z.grow(2);
        z.melt(0);
        z.grow(1);
        Due.is("the third swirl", z.row(0, 0) - 5000, x.row(2, 0) - x.row(1, 0));
        Due.is("three times given", z.much(5, -1) + z.much(5, 0), 21);
        Due.is("three times given", x.much(5, -1) + x.much(5, 0) + x.much(5, 1) + x.much(5, 2), 21);
    }

    private static void faulted(PulledCrystal x, int from) {
        for (int row = 0; row < x.count(0); row++) {
            Due.is("FAULTED from " + from + ": " + row, x.row(row, 6), row >= from ? 1 : 0);
        }
    }

    private static void leastOfTheFaults() {
        PulledCrystal x = pot("wide 0", "pull 1", 300, 300, 0);
        Due.is("without a ROW", x.fault(0), false);
        x.grow(5);
        faulted(x, 5);
        Due.is("behind the last", x.fault(5), false);
        Due.is("ahead of the first", x.fault(-1), false);
        faulted(x, 5);
        Due.is("the last", x.fault(4), true);
        faulted(x, 4);
        Due.is("one ahead", x.fault(2), true);
        faulted(x, 2);
        Due.is("between", x.fault(3), true);
        faulted(x, 2);
        Due.is("the first", x.fault(0), true);
        faulted(x, 0);
        x.grow(2);
        faulted(x, 0);
    }

    private static void faultsOfRowsThatAreGone() {
        PulledCrystal x = pot("wide 0", "pull 1", 300, 300, 0);
        x.grow(6);
        x.fault(2);
        x.fault(4);
        x.melt(3);
        faulted(x, 2);
        x.grow(4);
        faulted(x, 2);
        Due.is("that of ROW 4 is gone", x.fault(4), true);
        x.melt(2);
        x.grow(5);
        faulted(x, 7);
        Due.is("that of ROW 2 is gone", x.fault(2), true);
        x.melt(0);
        x.grow(600);
        Due.is("none at all", x.row(599, 6), 0);
        x.fault(599);
        Due.is("ROW 598", x.row(598, 6), 0);
        Due.is("ROW 599", x.row(599, 6), 1);
        x.begin(0, 0, 300, 400, 5, 300, 0, 900, 0);
        x.grow(600);
        Due.is("none in another POT", x.row(599, 6), 0);
    }

    private static void faultToldAlready() {
        PulledCrystal x = pot("wide 0", "pull 1", 300, 300, 0);
        x.grow(4);
        for (int row : new int[] {3, 1, 2, 0}) {
            Due.is("told", x.fault(row), true);
            Due.is("told already", x.fault(row), false);
        }
        for (int row = 0; row < 4; row++) {
            Due.is("told already", x.fault(row), false);
        }
        x.melt(1);
        x.grow(1);
        Due.is("that of ROW 0 is there still", x.fault(0), false);
        Due.is("that of ROW 1 is gone", x.fault(1), true);
    }

    private static void thinOneToMost() {
        PulledCrystal x = new PulledCrystal();
        int[] taken = {1, 2, 30, 9998, 9999};
        int was = 30;
        for (int n : taken) {
            Due.is("thin " + n, x.thin(n), was);
            Due.is("0", x.thin(0), -1);
            Due.is("10000", x.thin(10000), -1);
            Due.is("-1", x.thin(-1), -1);
            was = n;
        }
        Due.is("as it was", x.thin(30), 9999);
    }

    private static void neckAtThin() {
        PulledCrystal x = Due.ofWides(100, 0, 1, 30, 31, 1, 9999, 29);
        int[] due = {0, 1, 0, 1, 0};
        for (int row = 0; row < 5; row++) {
            Due.is("NECK at 30 " + row, x.row(row, 4), due[row]);
        }
        x.thin(1);
        Due.is("30 at thin 1", x.row(0, 4), 1);
        Due.is("1 at thin 1", x.row(2, 4), 0);
        x.thin(29);
        Due.is("30 at thin 29", x.row(0, 4), 1);
        Due.is("29 at thin 29", x.row(4, 4), 0);
        x.thin(9998);
        Due.is("9999 at thin 9998", x.row(3, 4), 1);
        x.thin(9999);
        for (int row = 0; row < 5; row++) {
            Due.is("all are NECK", x.row(row, 4), 0);
        }
    }

    private static void asManyFaultsAsPull() {
        int[] faults = {0, 1, 6, 7, 8, 13, 14, 15, 999};
        int[] left = {0, 0, 0, 0, 0, 0, 0, 1, 985};
        for (int k = 0; k < faults.length; k++) {
            PulledCrystal x = Due.ofWides(100, faults[k], 7, 31, 30, 31, 30, 31);
            Due.is("left of " + faults[k], x.faults(), left[k]);
            x.thin(29);
            Due.is("without a NECK " + faults[k], x.faults(), faults[k]);
            x.thin(31);
            Due.is("all are NECK " + faults[k], x.faults(), Math.max(0, faults[k] - 35));
        }
        PulledCrystal x = pot("wide 0", "pull 0", 300, 30, 3);
        x.grow(600);
        Due.is("without PULL none is taken away", x.faults(), 3);
        Due.is("and none is CLEAN", x.row(599, 5), 0);
    }

    private static void clean(PulledCrystal x, int from) {
        for (int row = 0; row < x.count(0); row++) {
            Due.is("CLEAN from " + from + ": " + row, x.row(row, 5), row >= from ? 1 : 0);
        }
    }

    private static void cleanBehindTheLastFault() {
        int[] faults = {1, 7, 8, 14, 15, 21, 22};
        int[] from = {2, 2, 4, 4, 5, 5, 6};
        for (int k = 0; k < faults.length; k++) {
            clean(Due.ofWides(100, faults[k], 7, 31, 30, 31, 30, 30, 31), from[k]);
        }
        PulledCrystal x = Due.ofWides(100, 8, 7, 31, 30, 31, 30, 30, 31);
        x.melt(4);
        clean(x, 4);
        Due.is("none is left all the same", x.faults(), 0);
        x.melt(3);
        clean(x, 3);
        Due.is("one is left", x.faults(), 1);
    }

    private static void allCleanWithoutFaults() {
        clean(Due.ofWides(100, 0, 7, 31, 30, 100), 0);
        clean(Due.ofWides(100, 1, 7, 31, 32, 100), 3);
        PulledCrystal x = Due.ofWides(100, 1, 7, 30, 31);
        clean(x, 1);
        Due.is("the ROW that takes the last away is not CLEAN", x.row(0, 5), 0);
    }

    // With PULL 10 a ROW of WIDE 100 is one gram, 200 are 4, 300 are 9, 320 are 10, 1000 are 100.
    private static void holdsTillThereIsMore() {
        Due.is("10 bears 10, not 11", Due.ofWides(100, 0, 10, 10, 300, 100, 100).holds(), 3);
        Due.is("10 bears 10", Due.ofWides(100, 0, 10, 10, 300, 100, 99).holds(), -2);
        Due.is("10 bears 10", Due.ofWides(100, 0, 10, 10, 320).holds(), -2);
        Due.is("10 bears 10", Due.ofWides(100, 0, 10, 10, 320, 99, 99, 100).holds(), 4);
        Due.is("3 bears 0", Due.ofWides(100, 0, 10, 3, 99, 99).holds(), -2);
        Due.is("3 bears 0", Due.ofWides(100, 0, 10, 3, 99, 100).holds(), 2);
        Due.is("4 bears 1", Due.ofWides(100, 0, 10, 4, 100).holds(), -2);
        Due.is("4 bears 1", Due.ofWides(100, 0, 10, 4, 100, 100).holds(), 2);
        Due.is("ROWS ahead are none behind", Due.ofWides(100, 0, 10, 1000, 1000, 10, 320).holds(), -2);
        Due.is("of 10 and 10 the first", Due.ofWides(100, 0, 10, 10, 320, 10, 100).holds(), 3);
        Due.is("of 11 and 10 the second", Due.ofWides(100, 0, 10, 11, 320, 10, 100, 200).holds(), -2);
        Due.is("of 10 and 11 the first", Due.ofWides(100, 0, 10, 10, 320, 11, 100).holds(), 3);
    }

    private static void holdsAtTheBounds() {
        Due.is("without a POT", new PulledCrystal().holds(), -1);
        PulledCrystal x = pot("wide 0", "pull 10", 300, 30, 3);
        Due.is("without ROWS", x.holds(), -2);
        x.grow(1);
        Due.is("nothing hangs there", x.holds(), -2);
        Due.is("30 is NECK", Due.ofWides(100, 0, 10, 30, 1000).holds(), 1);
        Due.is("31 is none", Due.ofWides(100, 0, 10, 31, 1000).holds(), -2);
        // 99 by 9999 is 98980 grams; 9999 bears 9998000
        x = Due.ofWides(100, 0, 99, 9999, 9999);
        x.thin(9999);
        Due.is("9999 bears all", x.holds(), -2);
        // 999 bears 99800 grams, 99 by 9999 is 98980
        x = Due.ofWides(100, 0, 99, 99, 9999);
        x.thin(999);
        Due.is("99 bears 980", x.holds(), 1);
        x = pot("wide 0 if minute > 0;wide 9999", "pull 0 if minute = 0;pull 99", 99999, 1000, 0);
        x.thin(1);
        x.grow(600);
        Due.is("without a NECK", x.holds(), -2);
    }

    // ROWS that have been there and are heavy bear on none.
    private static void holdsByRowsThatAreThere() {
        PulledCrystal x = pot("wide 0 if minute = 0;wide 1000 - wide", "pull 10", 5000, 30, 0);
        x.grow(4);
        Due.is("30 bears 90", x.holds(), 1);
        x.melt(1);
        Due.is("ROW 1 is gone", x.holds(), -2);
        x.grow(1);
        Due.is("it is there again", x.holds(), 1);
        x.begin(0, 0, 5000, 400, 5, 30, 0, 900, 0);
        Due.is("no ROW", x.holds(), -2);
        x.grow(1);
        Due.is("ROWS of the other POT are gone", x.holds(), -2);
    }

    private static void kind(int want, int wide, int due) {
        PulledCrystal x = Due.with("wide 0", "pull 1");
        x.begin(0, 0, 5000, want, 5, wide, 0, 900, 0);
        x.thin(1);
        x.grow(1);
        Due.is("KIND of WIDE " + wide + " for WANT " + want, x.row(0, 4), due);
    }

    private static void kindWithinATenth() {
        int[] wants = {100, 109, 110, 19, 10, 9, 20, 9999, 9090};
        for (int want : wants) {
            int tenth = want / 10;
            kind(want, want, 2);
            kind(want, want - tenth, 2);
            kind(want, want - tenth - 1, 1);
            if (want + tenth < 9999) {
                kind(want, want + tenth, 2);
                kind(want, want + tenth + 1, 1);
            }
        }
        kind(2, 2, 2);
        kind(2, 3, 1);
        kind(1, 1, 0);
        kind(1, 2, 1);
    }

    private static void leastKindFirst() {
        PulledCrystal x = Due.ofWides(30, 0, 1, 30, 31, 33, 34, 27, 26);
        int[] due = {0, 2, 2, 3, 0, 0};
        for (int row = 0; row < 6; row++) {
            Due.is("thin 30: " + row, x.row(row, 4), due[row]);
        }
        x.thin(26);
        due = new int[] {2, 2, 2, 3, 2, 0};
        for (int row = 0; row < 6; row++) {
            Due.is("thin 26: " + row, x.row(row, 4), due[row]);
        }
        x.thin(33);
        due = new int[] {0, 0, 0, 1, 0, 0};
        for (int row = 0; row < 6; row++) {
            Due.is("thin 33: " + row, x.row(row, 4), due[row]);
        }
    }

    private static void bodyAheadOfIt() {
        PulledCrystal x = Due.ofWides(100, 0, 1, 80, 89, 90, 89, 111, 110);
        int[] due = {1, 1, 2, 3, 3, 2};
        for (int row = 0; row < 6; row++) {
            Due.is("KIND " + row, x.row(row, 4), due[row]);
        }
        x.melt(3);
        Due.is("SHOULDER still", x.row(1, 4), 1);
        x.melt(2);
        x.grow(1);
        Due.is("BODY again", x.row(2, 4), 2);
        x = Due.ofWides(100, 0, 1, 100, 80, 120, 20);
        Due.is("TAIL right behind", x.row(1, 4), 3);
        Due.is("TAIL behind a TAIL", x.row(2, 4), 3);
        Due.is("NECK behind a TAIL", x.row(3, 4), 0);
        x.melt(0);
        x.begin(0, 0, 5000, 400, 5, 300, 0, 900, 0);
        x.grow(1);
        Due.is("BODY of another POT is none", x.row(0, 4), 1);
    }
}
