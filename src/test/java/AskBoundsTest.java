// Promises 23 to 29 and 32 to 35 and Terms, IV to VI: each sentence with a bound, on both sides of it.
public final class AskBoundsTest {
    private static final int ALL = 1000000000;

    public static void main(String[] args) {
        timesZeroToSixty();
        stepsOneToMost();
        ofSeveralTheLeastTimes();
        betweenLowAndHigh();
        givesOnceForEachRowThere();
        wanderFromRowToRow();
        wanderOfAll();
        huntsPassOver();
        triedOneToThreeHundred();
        triedFromWideAndSoMuch();
        triedTillItEnds();
        triedIfItGrowsNot();
        bestOneToThreeHundred();
        bestOfEight();
        slicesFromLeastToMost();
        hundredSlices();
        spanFromShareZero();
        spanToShareTwoThousand();
        spanGiveOrTake();
        spanOfRowsThatAreThere();
        choiceOneToThreeHundred();
        choiceOfSeveralTheLeast();
        choiceOfTheLeastFault();
        stripesMoreThanSoMany();
        stripesFromRowToRow();
        ringsFromLeastToMost();
        twoHundredRings();
        awryGive();
        awryFromMinusToPlus();
        farZeroToHundred();
        farOfEachSoMuch();
        farWithin();
        farOneToThreeHundred();
        Due.done("AskBoundsTest");
    }

    private static PulledCrystal pot(String furnace, String minder, int grams, int want, int wide) {
        PulledCrystal x = Due.with(furnace, minder);
        x.begin(0, 0, grams, want, 5, wide, 0, 900, 0);
        return x;
    }

    private static void enough(PulledCrystal x, int stuff, int step, int low, int high, int k, int rows) {
        String call = "enough " + stuff + " " + step + " " + low + " " + high + " ";
        Due.is(call + 0, x.enough(stuff, step, low, high, 0), k);
        Due.is(call + 1, x.enough(stuff, step, low, high, 1), rows);
        Due.is(call + 2, x.enough(stuff, step, low, high, 2), -1);
        Due.is(call + -1, x.enough(stuff, step, low, high, -1), -1);
    }

    // A ROW of 100 grams of 1000: a tenth of what is put in, ten thousand parts for each of it.
    private static PulledCrystal oneRow() {
        PulledCrystal x = pot("wide 0", "pull 10", 1000, 400, 1000);
        x.grow(1);
        return x;
    }

    private static void timesZeroToSixty() {
        PulledCrystal x = oneRow();
        enough(x, 0, 10, 0, 0, 0, 1);
        enough(x, 0, 10, 10000, 10000, 1, 1);
        enough(x, 0, 10, 590000, 590000, 59, 1);
        enough(x, 0, 10, 600000, 600000, 60, 1);
        enough(x, 0, 10, 610000, 610000, 0, 0);
        enough(x, 0, 10, 610000, ALL, 0, 0);
        enough(x, 0, 10, 600001, ALL, 0, 0);
        for (int stuff = 0; stuff < 6; stuff++) {
            enough(x, stuff, 10, 30000, 30000, 3, 1);
        }
        Due.is("STUFF -1", x.enough(-1, 10, 0, 0, 0), -1);
        Due.is("STUFF 6", x.enough(6, 10, 0, 0, 0), -1);
    }

    private static void stepsOneToMost() {
        PulledCrystal x = oneRow();
        Due.is("step 0", x.enough(0, 0, 0, ALL, 1), -1);
        Due.is("step -1", x.enough(0, -1, 0, ALL, 1), -1);
        Due.is("step 10000000", x.enough(0, 10000000, 0, ALL, 1), -1);
        enough(x, 0, 1, 60000, 60000, 60, 1);
        enough(x, 0, 1, 60001, ALL, 0, 0);
        // 9999999 by 10 is 999999: 9999990000 parts are more than there can be a WANT of
        enough(x, 0, 9999999, 1, ALL, 0, 0);
        x = pot("wide 0", "pull 99", 99999, 400, 9999);
        x.grow(1);
        // some 100001000 parts for each time
        enough(x, 0, 9999999, 0, ALL, 0, 1);
        enough(x, 0, 9999999, 900000000, ALL, 9, 1);
        enough(x, 0, 9999999, 901000000, ALL, 0, 0);
    }

    private static void ofSeveralTheLeastTimes() {
        PulledCrystal x = oneRow();
        enough(x, 0, 10, 20000, 50000, 2, 1);
        enough(x, 0, 10, 20001, 50000, 3, 1);
        enough(x, 0, 1, 20000, 50000, 20, 1);
        enough(x, 0, 1, 0, 9999, 0, 1);
        enough(x, 0, 1, 10000, 19999, 10, 1);
        // of two ROWS the first has 10 to 19 and the second, of LEFT 900, from 9 to 18 on a ninth
        x.grow(1);
        enough(x, 0, 5, 10000, 10000, 2, 2);
        enough(x, 0, 5, 0, 0, 0, 2);
        enough(x, 0, 30, 580000, 600000, 20, 2);
    }

    private static void betweenLowAndHigh() {
        PulledCrystal x = oneRow();
        Due.is("low -1", x.enough(0, 1, -1, 5, 1), -1);
        Due.is("low 0", x.enough(0, 1, 0, 5, 1), 1);
        Due.is("high below low", x.enough(0, 1, 6, 5, 1), -1);
        Due.is("high is low", x.enough(0, 1, 5, 5, 1), 0);
        Due.is("high most", x.enough(0, 1, 5, ALL, 1), 1);
        Due.is("high above most", x.enough(0, 1, 5, ALL + 1, 1), -1);
        Due.is("both most", x.enough(0, 1, ALL, ALL, 1), 0);
        Due.is("both above most", x.enough(0, 1, ALL + 1, ALL + 1, 1), -1);
        Due.is("without a POT", new PulledCrystal().enough(0, 1, 0, 5, 1), -1);
    }

    private static void givesOnceForEachRowThere() {
        PulledCrystal x = pot("wide 0;gives 1000", "pull 10", 1000, 400, 1000);
        x.stuff(5, 0, 77);
        x.begin(0, 0, 1000, 400, 5, 1000, 0, 900, 0);
        x.grow(5);
        enough(x, 5, 100, 1000000, 1000000, 0, 1);
        x.melt(0);
        enough(x, 5, 100, 0, ALL, 0, 0);
        x.grow(1);
        Due.is("what 6 MINUTES gave", x.much(5, 0), 607);
        enough(x, 5, 100, 1000000, 1000000, 0, 1);
        enough(x, 5, 100, 6070000, 6070000, 0, 0);
        enough(x, 5, 100, 6000000, 6000000, 50, 1);
        x.slice(0, 5, 1070000, 0);
        // 77 + 1000: 107 by the share of 1000 to 1009 thousandths
        Due.is("span", x.span(5, 0), 1000);
        Due.is("span", x.span(5, 1), 1009);
    }

    private static void wanderFromRowToRow() {
        PulledCrystal x = Due.ofWides(100, 0, 1, 90, 120, 130);
        Due.is("0 to 0", x.wander(0, 0, 0), 10);
        Due.is("0 to 2", x.wander(0, 2, 0), 30);
        Due.is("2 to 2", x.wander(2, 2, 0), 30);
        Due.is("1 to 0", x.wander(1, 0, 0), -1);
        Due.is("2 to 0", x.wander(2, 0, 1), -1);
        Due.is("0 to 3", x.wander(0, 3, 0), -1);
        Due.is("3 to 3", x.wander(3, 3, 0), -1);
        Due.is("-1 to 0", x.wander(-1, 0, 0), -1);
        Due.is("-1 to -1", x.wander(-1, -1, 0), -1);
        Due.is("what -1", x.wander(0, 2, -1), -1);
        Due.is("what 0", x.wander(0, 1, 0), 20);
        Due.is("what 1", x.wander(0, 2, 1), 1);
        Due.is("what 2", x.wander(0, 2, 2), -1);
    }

    private static void wanderOfAll() {
        PulledCrystal x = pot("wide 0", "pull 0", 1000, 9999, 1);
        x.grow(600);
        Due.is("1 for 9999", x.wander(0, 599, 0), 9998);
        Due.is("to ROW 600", x.wander(0, 600, 0), -1);
        x = pot("wide 0", "pull 0", 1000, 1, 9999);
        x.grow(600);
        Due.is("9999 for 1", x.wander(599, 599, 0), 9998);
        Due.is("no HUNTS", x.wander(0, 599, 1), 0);
        x = pot("wide 20 if minute / 2 * 2 = minute;wide 0 - 20", "pull 0", 1000, 100, 90);
        x.grow(600);
        Due.is("HUNTS of all", x.wander(0, 599, 1), 599);
        Due.is("HUNTS of the last two", x.wander(598, 599, 1), 1);
    }

    private static void huntsPassOver() {
        int[][] wides = {{101, 99}, {99, 101}, {101, 100}, {100, 99}, {100, 100}, {101, 102}, {99, 98}};
        int[] due = {1, 1, 0, 0, 0, 0, 0};
        for (int k = 0; k < wides.length; k++) {
            Due.is("HUNTS", Due.ofWides(100, 0, 1, wides[k]).wander(0, 1, 1), due[k]);
        }
        PulledCrystal x = Due.ofWides(100, 0, 1, 100, 101, 100, 101, 100, 99, 100);
        int[] to = {0, 0, 0, 0, 0, 1, 1};
        for (int row = 0; row < 7; row++) {
            Due.is("HUNTS to " + row, x.wander(0, row, 1), to[row]);
        }
        Due.is("from ROW 4 on", x.wander(4, 6, 1), 0);
        Due.is("from ROW 3 on", x.wander(3, 6, 1), 1);
    }

    private static void triedOneToThreeHundred() {
        PulledCrystal x = pot("wide 1", "pull 0", 1000, 400, 100);
        Due.is("0", x.tried(0, 0, 0, 2), -1);
        Due.is("1", x.tried(0, 1, 0, 2), 1);
        Due.is("300", x.tried(0, 300, 0, 2), 300);
        Due.is("301", x.tried(0, 301, 0, 2), -1);
        Due.is("-1", x.tried(0, -1, 0, 2), -1);
        Due.is("WIDE behind 1", x.tried(0, 1, 0, 4), 101);
        Due.is("WIDE behind 300", x.tried(0, 300, 0, 4), 400);
        Due.is("what -1", x.tried(0, 1, 0, -1), -1);
        Due.is("what 5", x.tried(0, 1, 0, 5), -1);
        Due.is("no MINDER 1", x.tried(1, 1, 0, 2), -1);
        Due.is("no MINDER -1", x.tried(-1, 1, 0, 2), -1);
        Due.is("no ROW has come", x.count(0), 0);
    }

    private static void triedFromWideAndSoMuch() {
        PulledCrystal x = pot("wide 7", "pull 0", 1000, 400, 5000);
        int[] much = {-9999, -5001, -5000, -4999, -1, 0, 1, 4998, 4999, 5000, 9999};
        int[] wide = {7, 7, 7, 8, 5006, 5007, 5008, 9999, 9999, 9999, 9999};
        for (int k = 0; k < much.length; k++) {
            Due.is("WIDE and " + much[k], x.tried(0, 1, much[k], 4), wide[k]);
        }
        Due.is("-10000", x.tried(0, 1, -10000, 4), -1);
        Due.is("10000", x.tried(0, 1, 10000, 4), -1);
        // held ahead of the MINUTE, not behind it
        x = pot("wide 0 - 9", "pull 0", 1000, 400, 5000);
        Due.is("9999 less 9", x.tried(0, 1, 9999, 4), 9990);
        Due.is("0 less 9", x.tried(0, 1, -9999, 4), 0);
    }

    private static void triedTillItEnds() {
        PulledCrystal x = pot("wide 0", "pull 10", 1000, 400, 1000);
        x.grow(1);
        Due.is("nothing LEFT", x.tried(0, 300, 0, 2), 9);
        Due.is("all that is LEFT", x.tried(0, 300, 0, 3), 900);
        Due.is("WIDE 0", x.tried(0, 300, -1000, 2), 1);
        Due.is("WIDE 1", x.tried(0, 300, -999, 2), 300);
        x.begin(0, 0, 99999, 400, 5, 10, 0, 900, 0);
        x.grow(399);
        Due.is("600 ROWS", x.tried(0, 300, 0, 2), 201);
        x.grow(200);
        Due.is("600 ROWS", x.tried(0, 300, 0, 2), 1);
        x.begin(0, 0, 99999, 400, 5, 10, 0, 20, 0);
        x.grow(10);
        x.melt(5);
        Due.is("its LIFE", x.tried(0, 300, 0, 2), 10);
        x.grow(9);
        Due.is("its LIFE", x.tried(0, 300, 0, 2), 1);
    }

    private static void triedIfItGrowsNot() {
        PulledCrystal x = pot("wide 0", "pull 10", 1000, 400, 1000);
        x.grow(600);
        int[] much = {-9999, -1001, -1000, -999, 0, 8998, 8999, 9000, 9999};
        int[] wide = {0, 0, 0, 1, 1000, 9998, 9999, 9999, 9999};
        for (int k = 0; k < much.length; k++) {
            for (int what = 0; what < 4; what++) {
                Due.is("tried " + what, x.tried(0, 300, much[k], what), 0);
            }
            Due.is("WIDE and " + much[k], x.tried(0, 300, much[k], 4), wide[k]);
        }
        Due.is("n 0", x.tried(0, 0, 0, 4), -1);
        Due.is("n 301", x.tried(0, 301, 0, 4), -1);
        Due.is("much 10000", x.tried(0, 1, 10000, 4), -1);
        Due.is("MINDER 1", x.tried(1, 1, 0, 4), -1);
        Due.is("what 5", x.tried(0, 1, 0, 5), -1);
        Due.is("without a POT", Due.with("wide 0", "pull 1").tried(0, 1, 0, 4), -1);
    }

    private static void bestOneToThreeHundred() {
        PulledCrystal x = pot("wide heat - 500", "heat 501", 1000, 400, 100);
        Due.minder(x, "heat 599 if minute < 2;heat 498");
        Due.is("0", x.best(0), -1);
        Due.is("1", x.best(1), 1);
        // the first ROW of MINDER 0 is 299 beside WANT; ROW 99 of MINDER 1 is 298, ROW 100 is 300
        Due.is("100", x.best(100), 1);
        Due.is("101", x.best(101), 0);
        Due.is("300", x.best(300), 0);
        Due.is("301", x.best(301), -1);
        Due.is("-1", x.best(-1), -1);
        Due.is("without a POT", Due.with("wide 0", "pull 1").best(1), -1);
        x.grow(600);
        Due.is("600 ROWS", x.state(), 4);
        Due.is("it GROWS not", x.best(1), -1);
    }

    private static void bestOfEight() {
        PulledCrystal x = Due.with("wide heat - 500", "heat 510");
        for (int k = 1; k < 7; k++) {
            Due.minder(x, "heat 510");
        }
        x.begin(0, 0, 1000, 400, 5, 100, 0, 900, 0);
        Due.is("of seven alike the first", x.best(3), 0);
        Due.minder(x, "heat 511");
        Due.is("the eighth", x.best(3), 7);
        Due.is("the eighth at the last", x.best(1), 7);
    }

    private static void slicesFromLeastToMost() {
        int[] least = {0, 0, 0, 0};
        int[] most = {599, 5, ALL, ALL};
        PulledCrystal x = new PulledCrystal();
        int many = 0;
        for (int k = 0; k < 4; k++) {
            int[] of = {7, 1, 50, 5};
            of[k] = least[k] - 1;
            Due.is("below in place " + k, x.slice(of[0], of[1], of[2], of[3]), -1);
            of[k] = least[k];
            Due.is("the least in place " + k, x.slice(of[0], of[1], of[2], of[3]), ++many);
            of[k] = most[k];
            Due.is("the most in place " + k, x.slice(of[0], of[1], of[2], of[3]), ++many);
            of[k] = most[k] + 1;
            Due.is("above in place " + k, x.slice(of[0], of[1], of[2], of[3]), -1);
            Due.is("SLICES", x.count(10), many);
        }
    }

    private static void hundredSlices() {
        PulledCrystal x = pot("wide 0", "pull 10", 1000, 400, 1000);
        x.stuff(0, 0, 1000);
        x.begin(0, 0, 1000, 400, 5, 1000, 0, 900, 0);
        x.grow(1);
        for (int k = 1; k < 100; k++) {
            Due.is("slice " + k, x.slice(0, 0, 1000000, ALL), k);
        }
        Due.is("all shares", x.span(0, 2), 2001);
        Due.is("the hundredth", x.slice(0, 0, 500000, 0), 100);
        Due.is("it is heeded", x.span(0, 2), 10);
        Due.is("one more", x.slice(0, 0, 700000, 0), -1);
        Due.is("it is not heeded", x.span(0, 2), 10);
        Due.is("SLICES", x.count(10), 100);
    }

    private static void span(PulledCrystal x, int stuff, int least, int greatest, int many) {
        int[] due = {least, greatest, many};
        for (int what = 0; what < 3; what++) {
            Due.is("span of " + stuff + " " + what, x.span(stuff, what), due[what]);
        }
        Due.is("what -1", x.span(stuff, -1), -1);
        Due.is("what 3", x.span(stuff, 3), -1);
    }

    // Into the ROW goes share by 1000 of 1000000: a thousand for each thousandth, ten million parts at 1000.
    private static PulledCrystal sliced(int... found) {
        PulledCrystal x = Due.with("wide 0", "pull 10");
        x.stuff(2, 0, 10000);
        x.begin(0, 0, 1000, 400, 5, 1000, 0, 900, 0);
        x.grow(1);
        for (int k = 0; k < found.length; k += 2) {
            x.slice(0, 2, found[k], found[k + 1]);
        }
        return x;
    }

    private static void spanFromShareZero() {
        span(sliced(), 2, 0, 2000, 2001);
        span(sliced(0, 0), 2, 0, 0, 1);
        span(sliced(0, 9999), 2, 0, 0, 1);
        span(sliced(0, 10000), 2, 0, 1, 2);
        span(sliced(10000, 0), 2, 1, 1, 1);
        span(sliced(10000, 10000), 2, 0, 2, 3);
        span(sliced(0, ALL), 2, 0, 2000, 2001);
        Due.is("STUFF -1", sliced().span(-1, 2), -1);
        Due.is("STUFF 6", sliced().span(6, 2), -1);
        Due.is("without a POT", new PulledCrystal().span(2, 2), -1);
    }

    private static void spanToShareTwoThousand() {
        span(sliced(20000000, 0), 2, 2000, 2000, 1);
        span(sliced(19990000, 0), 2, 1999, 1999, 1);
        span(sliced(19990000, 10000), 2, 1998, 2000, 3);
        span(sliced(20010000, 0), 2, -2, -2, 0);
        span(sliced(20010000, 9999), 2, -2, -2, 0);
        span(sliced(20010000, 10000), 2, 2000, 2000, 1);
        span(sliced(ALL, ALL), 2, 0, 2000, 2001);
        span(sliced(ALL, ALL - 20000000), 2, 2000, 2000, 1);
        span(sliced(ALL, ALL - 20000001), 2, -2, -2, 0);
        span(sliced(20000000, 0, 0, 0), 2, -2, -2, 0);
    }

    private static void spanGiveOrTake() {
        span(sliced(5000000, 10000), 2, 499, 501, 3);
        span(sliced(5000000, 9999), 2, 500, 500, 1);
        span(sliced(5005000, 4999), 2, -2, -2, 0);
        span(sliced(5005000, 5000), 2, 500, 501, 2);
        span(sliced(5000000, 100000, 5200000, 100000), 2, 510, 510, 1);
        span(sliced(5000000, 100000, 5200000, 99999), 2, -2, -2, 0);
        span(sliced(5000000, 100000, 5000000, 0), 2, 500, 500, 1);
    }

    private static void spanOfRowsThatAreThere() {
        PulledCrystal x = Due.with("wide 0", "pull 10");
        x.stuff(2, 0, 10000);
        x.begin(0, 0, 1000, 400, 5, 1000, 0, 900, 0);
        x.slice(0, 2, 0, 0);
        x.slice(1, 2, ALL, 0);
        x.slice(599, 2, ALL, 0);
        x.slice(0, 3, 5, 0);
        span(x, 2, 0, 2000, 2001);
        span(x, 3, 0, 2000, 2001);
        x.grow(1);
        span(x, 2, 0, 0, 1);
        span(x, 3, -2, -2, 0);
        x.grow(1);
        span(x, 2, -2, -2, 0);
        x.melt(1);
        span(x, 2, 0, 0, 1);
        x.melt(0);
        span(x, 2, 0, 2000, 2001);
        x = pot("wide 0", "pull 1", 99999, 400, 10);
        x.slice(599, 1, 1, 0);
        x.grow(599);
        span(x, 1, 0, 2000, 2001);
        x.grow(1);
        span(x, 1, -2, -2, 0);
    }

    private static void choice(PulledCrystal x, int n, int which, int now, int later, int again) {
        int[] due = {which, now, later, again};
        for (int what = 0; what < 4; what++) {
            Due.is("choice " + n + " " + what, x.choice(n, what), due[what]);
        }
        Due.is("what -1", x.choice(n, -1), -1);
        Due.is("what 4", x.choice(n, 4), -1);
    }

    private static void choiceOneToThreeHundred() {
        PulledCrystal x = pot("wide 0", "pull 10", 99999, 400, 300);
        x.want(0, 0, ALL, 0, 10, 1);
        Due.is("0", x.choice(0, 0), -1);
        choice(x, 1, 1, 0, 10, 10);
        choice(x, 300, 1, 0, 3000, 3000);
        Due.is("301", x.choice(301, 0), -1);
        Due.is("-1", x.choice(-1, 0), -1);
        Due.is("without a POT", new PulledCrystal().choice(1, 0), -1);
        x.grow(599);
        choice(x, 300, 1, 5990, 6000, 6000);
        x.grow(1);
        choice(x, 300, 0, 6000, 6000, 6000);
        x.fault(599);
        choice(x, 1, 2, 5990, 5990, 6000);
        x.fault(301);
        choice(x, 299, 2, 3010, 3010, 6000);
        choice(x, 298, 2, 3010, 3010, 5990);
    }

    private static void choiceOfSeveralTheLeast() {
        PulledCrystal x = pot("wide 0 - 50 if minute = 4", "pull 10", 99999, 400, 300);
        x.want(0, 0, ALL, 300, 10, 1);
        choice(x, 1, 1, 0, 10, 10);
        x.grow(4);
        choice(x, 3, 0, 40, 40, 40);
        x.fault(3);
        // ROW 3 is melted back and comes again, ROW 4 is too thin
        choice(x, 1, 2, 30, 30, 40);
        choice(x, 9, 2, 30, 30, 40);
        x.fault(0);
        choice(x, 4, 2, 0, 0, 40);
        choice(x, 1, 2, 0, 0, 10);
        x = pot("wide 0", "pull 10", 99999, 400, 300);
        x.want(0, 0, ALL, 300, 10, 1);
        x.grow(4);
        x.fault(2);
        x.minds(Due.minder(x, "pull 0"));
        choice(x, 5, 0, 20, 20, 20);
    }

    // Melted back to the least of them, no farther.
    private static void choiceOfTheLeastFault() {
        PulledCrystal x = pot("wide 0", "pull 10", 99999, 400, 300);
        x.want(0, 0, ALL, 0, 10, 1);
        x.grow(8);
        x.fault(6);
        x.fault(3);
        x.fault(5);
        choice(x, 1, 2, 30, 30, 40);
        choice(x, 4, 2, 30, 30, 70);
        x.melt(4);
        choice(x, 1, 2, 30, 30, 40);
        x.melt(3);
        choice(x, 1, 1, 30, 40, 40);
        x.fault(0);
        choice(x, 1, 2, 0, 0, 10);
        x.melt(0);
        choice(x, 1, 1, 0, 10, 10);
    }

    private static void stripesMoreThanSoMany() {
        PulledCrystal x = Due.with("wide 0", "pull 10");
        x.stuff(0, 0, 1000);
        x.stuff(0, 1, 500);
        x.begin(0, 0, 1000, 400, 5, 1000, 0, 900, 0);
        x.grow(3);
        int[] parts = {500000, 520000, 560000};
        for (int row = 0; row < 3; row++) {
            Due.is("parts", x.parts(0, row), parts[row]);
        }
        int[] many = {0, 19999, 20000, 20001, 39999, 40000, ALL};
        int[] due = {2, 2, 1, 1, 1, 0, 0};
        for (int k = 0; k < many.length; k++) {
            Due.is("stripes of " + many[k], x.stripes(0, 0, 2, many[k]), due[k]);
        }
        Due.is("many -1", x.stripes(0, 0, 2, -1), -1);
        Due.is("many above", x.stripes(0, 0, 2, ALL + 1), -1);
        x = Due.with("wide 0", "pull 10");
        x.stuff(0, 0, 1000);
        x.stuff(0, 1, 2000);
        x.begin(0, 0, 1000, 400, 5, 1000, 0, 900, 0);
        x.grow(2);
        Due.is("parts", x.parts(0, 1), 1760000);
        Due.is("240000 below", x.stripes(0, 0, 1, 239999), 1);
        Due.is("240000 below", x.stripes(0, 0, 1, 240000), 0);
    }

    private static void stripesFromRowToRow() {
        PulledCrystal x = pot("wide 0;gives 99", "pull 10", 99999, 400, 1000);
        x.stuff(5, 0, 90000);
        x.stuff(5, 1, 500);
        x.begin(0, 0, 99999, 400, 5, 1000, 0, 900, 0);
        x.grow(600);
        Due.is("ROW 0 to ROW 599", x.stripes(5, 0, 599, ALL), 0);
        Due.is("ROW 0 alone", x.stripes(5, 0, 0, 0), 0);
        Due.is("ROW 599 alone", x.stripes(5, 599, 599, 0), 0);
        Due.is("to ROW 600", x.stripes(5, 0, 600, 0), -1);
        Due.is("from ROW 600", x.stripes(5, 600, 600, 0), -1);
        Due.is("from ROW -1", x.stripes(5, -1, 0, 0), -1);
        Due.is("backwards", x.stripes(5, 1, 0, 0), -1);
        Due.is("STUFF -1", x.stripes(-1, 0, 1, 0), -1);
        Due.is("STUFF 6", x.stripes(6, 0, 1, 0), -1);
        int all = 0;
        for (int row = 1; row < 100; row++) {
            boolean differs = x.parts(5, row) != x.parts(5, row - 1);
            all += differs ? 1 : 0;
            Due.is("from one to the next", x.stripes(5, row - 1, row, 0), differs ? 1 : 0);
        }
        Due.is("all of them", x.stripes(5, 0, 99, 0), all);
    }

    private static void ringsFromLeastToMost() {
        PulledCrystal x = new PulledCrystal();
        Due.is("ROW -1", x.ring(-1, 5), -1);
        Due.is("ROW 0", x.ring(0, 5), 1);
        Due.is("ROW 599", x.ring(599, 5), 2);
        Due.is("ROW 600", x.ring(600, 5), -1);
        Due.is("seen -10000", x.ring(5, -10000), -1);
        Due.is("seen -9999", x.ring(5, -9999), 3);
        Due.is("seen 19999", x.ring(5, 19999), 4);
        Due.is("seen 20000", x.ring(5, 20000), -1);
        Due.is("RINGS", x.count(12), 4);
    }

    private static void twoHundredRings() {
        PulledCrystal x = pot("wide 0", "pull 10", 1000, 400, 300);
        x.grow(1);
        for (int k = 1; k < 200; k++) {
            Due.is("ring " + k, x.ring(0, 305), k);
        }
        awry(x, 0, 5, 5, 1);
        Due.is("the two hundredth", x.ring(0, 306), 200);
        awry(x, 0, -1000, -1000, 0);
        awry(x, 1, 5, 6, 2);
        Due.is("one more", x.ring(0, 308), -1);
        awry(x, 1, 5, 6, 2);
        Due.is("RINGS", x.count(12), 200);
    }

    private static void awry(PulledCrystal x, int give, int least, int greatest, int many) {
        int[] due = {least, greatest, many};
        for (int what = 0; what < 3; what++) {
            Due.is("awry " + give + " " + what, x.awry(give, what), due[what]);
        }
        Due.is("what -1", x.awry(give, -1), -2000);
        Due.is("what 3", x.awry(give, 3), -2000);
    }

    private static void awryGive() {
        PulledCrystal x = Due.ofWides(100, 0, 1, 300, 400);
        x.ring(0, 310);
        x.ring(1, 420);
        Due.is("give -1", x.awry(-1, 2), -2000);
        awry(x, 0, -1000, -1000, 0);
        awry(x, 4, -1000, -1000, 0);
        awry(x, 5, 15, 15, 1);
        awry(x, 6, 14, 16, 3);
        awry(x, 9999, -500, 500, 1001);
        Due.is("give 10000", x.awry(10000, 2), -2000);
        x.melt(1);
        awry(x, 0, 10, 10, 1);
        x.melt(0);
        awry(x, 0, -500, 500, 1001);
        awry(new PulledCrystal(), 9999, -500, 500, 1001);
        Due.is("without a POT, give -1", new PulledCrystal().awry(-1, 2), -2000);
    }

    private static void awryFromMinusToPlus() {
        int[] beside = {-501, -500, -499, 499, 500, 501};
        int[] least = {-1000, -500, -499, 499, 500, -1000};
        for (int k = 0; k < 6; k++) {
            PulledCrystal x = Due.ofWides(100, 0, 1, 1000);
            x.ring(0, 1000 + beside[k]);
            awry(x, 0, least[k], least[k], least[k] == -1000 ? 0 : 1);
            int from = Math.max(-500, beside[k] - 1);
            int to = Math.min(500, beside[k] + 1);
            awry(x, 1, from, to, to - from + 1);
        }
        PulledCrystal x = Due.ofWides(100, 0, 1, 9999);
        x.ring(0, -9999);
        awry(x, 9999, -1000, -1000, 0);
        x = Due.ofWides(100, 0, 1, 1);
        x.ring(0, 19999);
        awry(x, 9999, -1000, -1000, 0);
        x = Due.ofWides(100, 0, 1, 9500);
        x.ring(0, 19999);
        awry(x, 9999, 500, 500, 1);
        awry(x, 9998, -1000, -1000, 0);
    }

    private static void farZeroToHundred() {
        PulledCrystal x = pot("wide 0", "pull 0", 1000, 400, 400);
        for (int within : new int[] {0, 1, 50, 99, 100, 101, 9999}) {
            Due.is("within " + within, x.far(0, 1, within), Math.min(100, within));
        }
        x = pot("wide 0", "pull 0", 1000, 400, 401);
        Due.is("not even with 0", x.far(0, 1, 0), -2);
        Due.is("0", x.far(0, 1, 1), 0);
        Due.is("1", x.far(0, 1, 2), 1);
    }

    private static void farOfEachSoMuch() {
        // what is 30 above goes astray alone, what is 20 below alone
        PulledCrystal x = pot("wide 50 if wide = 430;wide 50 if wide = 380;wide 400 - wide", "pull 0", 1000, 400, 400);
        Due.is("19", x.far(0, 1, 0), 19);
        x = pot("wide 50 if wide = 430;wide 400 - wide", "pull 0", 1000, 400, 400);
        Due.is("29", x.far(0, 1, 0), 29);
        x = pot("wide 50 if wide = 500;wide 400 - wide", "pull 0", 1000, 400, 400);
        Due.is("99", x.far(0, 1, 0), 99);
        x = pot("wide 50 if wide = 300;wide 400 - wide", "pull 0", 1000, 400, 400);
        Due.is("99", x.far(0, 1, 0), 99);
        x = pot("wide 50 if wide = 501 or wide = 299;wide 400 - wide", "pull 0", 1000, 400, 400);
        Due.is("100", x.far(0, 1, 0), 100);
        // WIDE and so much is held: from 10 down all is 0 alike
        x = pot("wide 50 if wide = 0;wide 400 - wide", "pull 0", 1000, 400, 10);
        Due.is("9", x.far(0, 1, 0), 9);
        x = pot("wide 5 - wide if wide = 9999;wide 400 - wide", "pull 0", 1000, 400, 9990);
        Due.is("8", x.far(0, 1, 0), 8);
    }

    private static void farWithin() {
        PulledCrystal x = pot("wide 0", "pull 0", 1000, 400, 400);
        Due.is("-1", x.far(0, 1, -1), -1);
        Due.is("0", x.far(0, 1, 0), 0);
        Due.is("9999", x.far(0, 1, 9999), 100);
        Due.is("10000", x.far(0, 1, 10000), -1);
        Due.is("MINDER 1", x.far(1, 1, 0), -1);
        Due.is("MINDER -1", x.far(-1, 1, 0), -1);
        Due.is("without a POT", Due.with("wide 0", "pull 1").far(0, 1, 0), -1);
        x = pot("wide 0", "pull 0", 1000, 9999, 1);
        Due.is("1 to 101 within 9998 of 9999, and 0 not", x.far(0, 1, 9998), 0);
        Due.is("all are", x.far(0, 1, 9999), 100);
    }

    private static void farOneToThreeHundred() {
        PulledCrystal x = pot("wide 1", "pull 0", 1000, 400, 100);
        Due.is("0", x.far(0, 0, 5), -1);
        Due.is("1: 101", x.far(0, 1, 299), 0);
        Due.is("1: 101", x.far(0, 1, 298), -2);
        Due.is("300: 400", x.far(0, 300, 7), 7);
        Due.is("301", x.far(0, 301, 5), -1);
        Due.is("-1", x.far(0, -1, 5), -1);
        x.grow(600);
        Due.is("600 ROWS", x.state(), 4);
        Due.is("it GROWS not", x.far(0, 1, 9999), -1);
        x.melt(599);
        Due.is("it GROWS", x.far(0, 1, 9999), 100);
    }
}
