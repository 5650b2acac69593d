// What a MINUTE does (Terms, II), seen by grow (9), row (12), much (13) and parts (14).
public final class MinuteTest {
    public static void main(String[] args) {
        wordsOfMinder();
        wordsOfFurnace();
        seenLate();
        reckoning();
        firstClause();
        held();
        swirling();
        grown();
        goesAlong();
        gives();
        wrongRows();
        Due.done("MinuteTest");
    }

    // Lets the MINDER's HEAT tell a SUM: what it was in each of the first ROWS.
    private static void heats(String furnace, String sum, int... due) {
        PulledCrystal x = Due.with(furnace, "heat " + sum + ";pull 10 + minute");
        x.begin(0, 0, 3000, 70, 5, 500, 0, 900, 0);
        x.grow(due.length);
        for (int row = 0; row < due.length; row++) {
            Due.is("HEAT by " + sum + " of ROW " + row, x.row(row, 1), due[row]);
        }
    }

    private static void wordsOfMinder() {
        String furnace = "wide 10";
        heats(furnace, "minute", 0, 1, 2, 3);
        heats(furnace, "seen", 500, 510, 520, 530);
        heats(furnace, "was", 500, 500, 510, 520);
        heats(furnace, "want", 70, 70, 70);
        heats(furnace, "heat + 1", 6, 7, 8, 9);
        heats(furnace, "pull", 0, 10, 11, 12);
        heats(furnace, "long", 0, 10, 21, 33);
        // GROWN: 26, 29, 33 of 3000 grams
        heats(furnace, "left - 900", 100, 91, 81, 70);
    }

    // Lets WIDE tell a SUM of the FURNACE: WIDE is 500 ahead of each first ROW.
    private static void wides(String sum, int... due) {
        PulledCrystal x = Due.with("wide " + sum + " - wide", "heat 40 + minute;pull 10 + minute");
        x.begin(0, 0, 3000, 70, 5, 500, 0, 900, 0);
        x.grow(due.length);
        for (int row = 0; row < due.length; row++) {
            Due.is("WIDE by " + sum + " of ROW " + row, x.row(row, 0), due[row]);
        }
    }

    private static void wordsOfFurnace() {
        wides("minute + 1", 1, 2, 3);
        wides("heat", 40, 41, 42);
        wides("pull", 10, 11, 12);
        wides("want", 70, 70);
        wides("seen + 1", 501, 502, 503);
        wides("was + 1", 501, 501, 502, 502);
        wides("long + 1", 1, 11, 22, 34);
        // GROWN: 100, 102 of 3000 grams
        wides("left", 1000, 966, 932);
        wides("(wide * 2)", 1000, 2000, 4000);
    }

    private static void seenLate() {
        heats("wide 10;late 1", "seen", 500, 500, 510, 520);
        heats("wide 10;late 1", "was", 500, 500, 500, 510);
        heats("wide 10;late 2", "seen", 500, 500, 500, 510, 520);
        heats("late 9;wide 10", "seen", 500, 500, 500, 500, 500, 500, 500, 500, 500, 500, 510, 520);
        heats("late 9;wide 10", "was", 500, 500, 500, 500, 500, 500, 500, 500, 500, 500, 500, 510, 520);
        heats("late 0;wide 10", "was", 500, 500, 510);
    }

    private static void reckoning() {
        String furnace = "wide 0";
        heats(furnace, "7 / 2", 3);
        heats(furnace, "10 + (0 - 7) / 2", 7);
        heats(furnace, "10 + 7 / (0 - 2)", 7);
        heats(furnace, "10 + 7 / 0", 10);
        heats(furnace, "10 + 0 / 0 * 3", 10);
        heats(furnace, "2 + 3 * 4", 14);
        heats(furnace, "(2 + 3) * 4", 20);
        heats(furnace, "100 - 20 - 3", 77);
        heats(furnace, "100 / 5 / 2", 10);
        heats(furnace, "100 / 5 * 2", 40);
        heats(furnace, "2 * 100 / 7", 28);
        heats(furnace, "100 - 20 + 3", 83);
        // 2 to the power of 64 is 0, of 63 the least of all, which by -1 is itself
        heats(furnace, "5 + 65536 * 65536 * 65536 * 65536", 5);
        heats(furnace, "65536 * 65536 * 65536 * 32768", 0);
        heats(furnace, "65536 * 65536 * 65536 * 32768 - 1", 999);
        heats(furnace, "65536 * 65536 * 65536 * 32768 / (0 - 1) - 1", 999);
    }

    private static void firstClause() {
        test("1 < 2", true);
        test("2 < 2", false);
        test("2 <= 2", true);
        test("3 <= 2", false);
        test("2 = 2", true);
        test("1 = 2", false);
        test("2 >= 2", true);
        test("1 >= 2", false);
        test("2 > 1", true);
        test("2 > 2", false);
        test("2 < 1", false);
        test("1 <= 2", true);
        test("2 >= 1", true);
        test("1 > 2", false);
        test("not 2 > 2", true);
        test("not not 2 > 2", false);
        test("1 = 1 or 1 = 2 and 1 = 2", true);
        test("[1 = 1 or 1 = 2] and 1 = 2", false);
        test("1 = 2 and 1 = 2 or 1 = 1", true);
        test("1 = 2 and [1 = 2 or 1 = 1]", false);
        test("not 1 = 2 and 1 = 2", false);
        test("not [1 = 2 and 1 = 2]", true);
        test("1 = 2 or 1 = 2", false);
        test("1 = 1 and 1 = 1", true);
        test("0 - 1 < 0", true);
        test("1 + 1 * 2 = 3 and 2 * (1 + 1) = 4", true);
        PulledCrystal x = Due.with("wide 3 if minute = 1;wide 4 if minute >= 1 and minute <= 2", "pull 7 if minute = 2;heat 9 if minute = 1");
        x.begin(0, 0, 3000, 70, 5, 500, 0, 900, 0);
        x.grow(4);
        int[][] due = {{500, 5, 0}, {503, 9, 0}, {507, 9, 7}, {507, 9, 7}};
        for (int row = 0; row < 4; row++) {
            for (int what = 0; what < 3; what++) {
                Due.is("row " + row + " " + what, x.row(row, what), due[row][what]);
            }
        }
    }

    private static void test(String test, boolean holds) {
        heats("wide 0", "8 if " + test + ";heat 6", holds ? 8 : 6);
    }

    private static void held() {
        PulledCrystal x = Due.with("wide 99999 if minute = 0;wide 0 - 99999 if minute = 1;swirl 0", "pull 100;heat 1000");
        Due.minder(x, "pull 0 - 1;heat 0 - 1");
        Due.furnace(x, "wide (99999 - 90100) if minute = 0;swirl 99");
        x.begin(0, 0, 99999, 70, 5, 500, 0, 900, 0);
        x.grow(1);
        Due.is("WIDE at most", x.count(2), 9999);
        Due.is("HEAT at most", x.count(3), 999);
        Due.is("PULL at most", x.count(4), 99);
        x.begin(0, 1, 99999, 70, 5, 500, 0, 900, 0);
        x.grow(1);
        Due.is("HEAT at least", x.count(3), 0);
        Due.is("PULL at least", x.count(4), 0);
        x.grow(1);
        Due.is("WIDE at least", x.count(2), 0);
        // the first x is 12345, the shift 0 less 99
        x.begin(1, 1, 99999, 70, 5, 200, 0, 900, 0);
        x.grow(1);
        Due.is("the swirl lies on top of the SUM", x.count(2), 9999);
        sumIsHeldAhead();
    }

    private static void sumIsHeldAhead() {
        PulledCrystal x = Due.with("wide 20000;swirl 99", "pull 0");
        Due.furnace(x, "wide 0 - 20000;swirl 99");
        x.begin(0, 0, 99999, 70, 5, 50, 0, 900, 0);
        x.grow(1);
        Due.is("50 + 9999 - 99", x.count(2), 9950);
        // the x behind 12345 is 1406932606, which by 65536 is 21468: of 199 the rest is 175
        x.begin(1, 0, 99999, 70, 5, 9999, 12345, 900, 0);
        x.grow(1);
        Due.is("9999 - 9999 + 175 - 99", x.count(2), 76);
    }

    private static void swirling() {
        PulledCrystal x = Due.with("swirl 9", "pull 0");
        Due.furnace(x, "wide 1");
        x.begin(0, 0, 99999, 70, 5, 5000, 2147483647, 900, 0);
        x.grow(600);
        long seed = 2147483647L;
        int wide = 5000;
        for (int row = 0; row < 600; row++) {
            seed = (seed * 1103515245L + 12345L) & 2147483647L;
            wide += seed / 65536 % 19 - 9;
            if (row < 100 || row >= 500) {
                Due.is("swirled WIDE of ROW " + row, x.row(row, 0), wide);
            }
        }
        // 12345 / 65536 is 0, and the next x, 1406932606, by 65536 is 21468: of 19 the rest is 17
        x.begin(0, 0, 99999, 70, 5, 5000, 0, 900, 0);
        x.grow(2);
        Due.is("the first swirl", x.row(0, 0), 4991);
        Due.is("the second swirl", x.row(1, 0), 4999);
        x.begin(1, 0, 99999, 70, 5, 5000, 0, 900, 0);
        x.grow(2);
        Due.is("no swirl", x.row(1, 0), 5002);
    }

    private static void grown() {
        PulledCrystal x = Due.with("wide 0", "pull 99 - minute * 33");
        x.begin(0, 0, 99999, 70, 5, 9999, 0, 900, 0);
        x.grow(3);
        Due.is("99 * 9999 * 9999 / 100000", x.row(0, 3), 98980);
        Due.is("what is LEFT", x.row(1, 3), 1019);
        Due.is("ROWS", x.count(0), 2);
        Due.is("LEFT", x.count(1), 0);
        x.begin(0, 0, 99999, 70, 5, 31, 0, 900, 0);
        x.grow(4);
        Due.is("0.95", x.row(0, 3), 0);
        Due.is("no PULL", x.row(3, 3), 0);
        Due.is("PULLS", x.count(5), 99 + 66 + 33);
        x.begin(0, 0, 99999, 70, 5, 32, 0, 900, 0);
        x.grow(1);
        Due.is("1.01", x.row(0, 3), 1);
        Due.is("LEFT", x.count(1), 99998);
    }

    private static void goesAlong() {
        PulledCrystal x = Due.with("wide 0", "pull 10");
        int[] puts = {1000, 1000, 1000, 999999999, 7, 0};
        int[] shares = {1000, 500, 2000, 1999, 1999, 1000};
        for (int stuff = 0; stuff < 6; stuff++) {
            x.stuff(stuff, 0, puts[stuff]);
            x.stuff(stuff, 1, shares[stuff]);
        }
        x.begin(0, 0, 300, 70, 5, 1000, 0, 900, 0);
        x.grow(3);
        // 100 of 300, of 200, of 100 grams
        long[][] due = {{333, 333, 334}, {166, 208, 313}, {666, 334, 0}, {666333332, 333333333, 333334}, {3, 3, 1}, {0, 0, 0}};
        long[] behind = {0, 313, 0, 0, 0, 0};
        due[3][1] = Math.min(999999999L - 666333332, (999999999L - 666333332) / 2 * 1999 / 1000);
        due[3][2] = 999999999L - 666333332 - due[3][1];
        for (int stuff = 0; stuff < 6; stuff++) {
            for (int row = 0; row < 3; row++) {
                Due.is("much " + stuff + " " + row, x.much(stuff, row), due[stuff][row]);
                Due.is("parts " + stuff + " " + row, x.parts(stuff, row), due[stuff][row] * 1000000 / 100);
            }
            Due.is("in the melt " + stuff, x.much(stuff, -1), behind[stuff]);
        }
    }

    private static void gives() {
        PulledCrystal x = Due.with("wide 0;gives 9999", "pull 0 if minute = 1;pull 10");
        x.stuff(5, 0, 1);
        x.stuff(4, 0, 1);
        x.begin(0, 0, 1000, 70, 5, 1000, 0, 900, 0);
        x.grow(2);
        Due.is("a tenth of 10000", x.much(5, 0), 1000);
        Due.is("nothing into a ROW without GROWN", x.much(5, 1), 0);
        Due.is("parts of it", x.parts(5, 1), 0);
        Due.is("parts of the first", x.parts(5, 0), 10000000);
        Due.is("in the melt", x.much(5, -1), 9000 + 9999);
        Due.is("none for STUFF 4", x.much(4, -1), 1);
    }

    private static void wrongRows() {
        PulledCrystal x = Due.with("wide 0", "pull 10");
        Due.is("row without a POT", x.row(0, 0), -1);
        Due.is("melt without a POT", x.much(0, -1), 0);
        Due.is("much without a POT", x.much(0, 0), -1);
        Due.is("parts without a POT", x.parts(0, 0), -1);
        Due.is("much of stuff 6 without a POT", x.much(6, -1), -1);
        x.stuff(0, 0, 50);
        x.begin(0, 0, 1000, 70, 5, 1000, 0, 900, 0);
        Due.is("no ROW yet", x.row(0, 0), -1);
        x.grow(2);
        for (int what = 0; what < 7; what++) {
            Due.is("row 2", x.row(2, what), -1);
            Due.is("row -1", x.row(-1, what), -1);
            Due.is("row far", x.row(600, what), -1);
        }
        Due.is("what 7", x.row(0, 7), -1);
        Due.is("what -1", x.row(0, -1), -1);
        Due.is("much of ROW 2", x.much(0, 2), -1);
        Due.is("much of ROW -2", x.much(0, -2), -1);
        Due.is("much of stuff 6", x.much(6, 0), -1);
        Due.is("much of stuff -1", x.much(-1, 0), -1);
        Due.is("parts of ROW 2", x.parts(0, 2), -1);
        Due.is("parts of the melt", x.parts(0, -1), -1);
        Due.is("parts of stuff 6", x.parts(6, 0), -1);
        Due.is("parts of stuff -1", x.parts(-1, 0), -1);
    }
}
