// Promises 24 to 26 and 35: wander, tried, best, far.
public final class WanderTest {
    public static void main(String[] args) {
        wandering();
        hunting();
        wrongWander();
        trying();
        seenAsItWas();
        tryingToTheEnd();
        nothingHappens();
        wrongTries();
        best();
        bestByHunts();
        far();
        farBelow();
        Due.done("WanderTest");
    }

    private static void wandering() {
        PulledCrystal x = Due.ofWides(100, 0, 1, 90, 105, 100, 121, 70);
        Due.is("wander", x.wander(0, 4, 0), 30);
        Due.is("wander", x.wander(0, 3, 0), 21);
        Due.is("wander", x.wander(0, 2, 0), 10);
        Due.is("wander", x.wander(1, 2, 0), 5);
        Due.is("wander of one ROW", x.wander(2, 2, 0), 0);
        Due.is("wander of one ROW", x.wander(4, 4, 0), 30);
    }

    private static void hunting() {
        PulledCrystal x = Due.ofWides(100, 0, 1, 90, 105, 100, 121, 70);
        Due.is("hunts", x.wander(0, 4, 1), 2);
        Due.is("hunts", x.wander(0, 3, 1), 1);
        Due.is("hunts of above and above", x.wander(1, 3, 1), 0);
        Due.is("hunts from at WANT", x.wander(2, 4, 1), 1);
        Due.is("hunts to at WANT", x.wander(1, 2, 1), 0);
        Due.is("hunts of one ROW", x.wander(0, 0, 1), 0);
        x = Due.ofWides(100, 0, 1, 101, 100, 100, 99, 101, 100);
        Due.is("passed over", x.wander(0, 5, 1), 2);
        Due.is("passed over", x.wander(0, 3, 1), 1);
        Due.is("passed over", x.wander(0, 2, 1), 0);
        Due.is("passed over", x.wander(1, 3, 1), 0);
    }

    private static void wrongWander() {
        PulledCrystal x = new PulledCrystal();
        Due.is("wander without a POT", x.wander(0, 0, 0), -1);
        x = Due.ofWides(100, 0, 1, 90, 105, 100);
        Due.is("to is ahead of from", x.wander(2, 1, 0), -1);
        Due.is("from -1", x.wander(-1, 1, 0), -1);
        Due.is("to behind", x.wander(0, 3, 0), -1);
        Due.is("both behind", x.wander(3, 3, 1), -1);
        Due.is("what 2", x.wander(0, 1, 2), -1);
        Due.is("what -1", x.wander(0, 1, -1), -1);
    }

    private static void tried(PulledCrystal x, int minder, int n, int much, int... due) {
        for (int what = 0; what < 5; what++) {
            Due.is("tried " + minder + " " + n + " " + much + " " + what, x.tried(minder, n, much, what), due[what]);
        }
    }

    private static void trying() {
        PulledCrystal x = Due.with("wide heat", "pull 0;heat 10");
        Due.minder(x, "pull 10;heat 50");
        x.begin(0, 0, 99999, 400, 0, 300, 0, 900, 0);
        tried(x, 0, 1, 0, 90, 0, 1, 0, 310);
        tried(x, 0, 3, 0, 90, 0, 3, 0, 330);
        tried(x, 0, 3, 80, 10, 1, 3, 0, 410);
        tried(x, 1, 3, 0, 50, 1, 3, 12 + 16 + 20, 450);
        tried(x, 1, 3, -250, 300, 0, 3, 1 + 2 + 4, 200);
        tried(x, 1, 1, -9999, 350, 0, 1, 0, 50);
        tried(x, 1, 1, 9999, 9599, 0, 1, 9998, 9999);
        x.grow(2);
        tried(x, 0, 1, 0, 70, 0, 1, 0, 330);
        // the ROWS ahead are none of those that come
        tried(x, 1, 2, 60, 80, 0, 2, 18 + 23, 480);
    }

    // What the MINDER sees is as it was, and that at the beginning, too; what is grown in the trial it sees.
    private static void seenAsItWas() {
        PulledCrystal x = Due.with("wide 10", "heat seen;pull 1");
        Due.furnace(x, "wide heat - wide");
        Due.furnace(x, "late 1;wide heat + 1 - wide");
        x.begin(1, 0, 99999, 400, 0, 300, 0, 900, 0);
        Due.is("by WIDE of the beginning", x.tried(0, 1, 50, 4), 300);
        Due.is("by WIDE of the beginning", x.tried(0, 2, 50, 4), 300);
        x.begin(2, 0, 99999, 400, 0, 300, 0, 900, 0);
        x.grow(3);
        Due.is("WIDE", x.count(2), 302);
        Due.is("by the last ROW but one", x.tried(0, 1, 70, 4), 302);
        Due.is("by the last ROW", x.tried(0, 2, 70, 4), 303);
        Due.is("by the first ROW tried", x.tried(0, 3, 70, 4), 303);
        x.begin(0, 0, 99999, 400, 0, 300, 0, 900, 0);
        Due.is("the FURNACE's wide is shifted", x.tried(0, 1, 50, 4), 360);
    }

    private static void tryingToTheEnd() {
        PulledCrystal x = Due.with("wide 0 - heat", "pull 10;heat 0");
        Due.minder(x, "pull 10;heat 100");
        x.begin(0, 0, 200, 500, 0, 1000, 0, 6, 0);
        tried(x, 0, 300, 0, 500, 0, 2, 200, 1000);
        tried(x, 0, 300, -600, 100, 0, 6, 96, 400);
        tried(x, 1, 300, -700, 500, 0, 3, 4 + 1, 0);
        tried(x, 0, 1, -1000, 500, 0, 1, 0, 0);
        tried(x, 0, 5, -1000, 500, 0, 1, 0, 0);
        x.grow(2);
        Due.is("nothing LEFT", x.state(), 2);
        tried(x, 0, 300, 0, 0, 0, 0, 0, 1000);
        tried(x, 1, 1, -300, 0, 0, 0, 0, 700);
        tried(x, 1, 1, -3000, 0, 0, 0, 0, 0);
        tried(x, 1, 1, 9999, 0, 0, 0, 0, 9999);
        Due.is("wrong, though it GROWS not", x.tried(2, 1, 0, 0), -1);
    }

    private static void nothingHappens() {
        PulledCrystal x = Due.with("wide heat;swirl 50;gives 5", "pull 3;heat 10");
        Due.minder(x, "pull 10;heat 50");
        PulledCrystal z = Due.with("wide heat;swirl 50;gives 5", "pull 3;heat 10");
        x.stuff(5, 0, 1000);
        z.stuff(5, 0, 1000);
        x.begin(0, 0, 99999, 400, 0, 300, 3, 900, 0);
        z.begin(0, 0, 99999, 400, 0, 300, 3, 900, 0);
        x.grow(3);
        x.tried(1, 9, 50, 0);
        x.best(30);
        x.far(1, 20, 50);
        z.grow(3);
        for (int what = 0; what < 7; what++) {
            Due.is("count " + what, x.count(what), z.count(what));
        }
        x.grow(3);
        z.grow(3);
        for (int what = 0; what < 7; what++) {
            Due.is("count " + what, x.count(what), z.count(what));
        }
        Due.is("in the melt", x.much(5, -1), z.much(5, -1));
    }

    private static void wrongTries() {
        PulledCrystal x = Due.with("wide 0", "pull 1");
        Due.is("tried without a POT", x.tried(0, 1, 0, 0), -1);
        Due.is("best without a POT", x.best(1), -1);
        Due.is("far without a POT", x.far(0, 1, 0), -1);
        x.begin(0, 0, 99999, 400, 0, 300, 0, 2, 0);
        Due.is("minder 1", x.tried(1, 1, 0, 0), -1);
        Due.is("minder -1", x.tried(-1, 1, 0, 0), -1);
        Due.is("n 0", x.tried(0, 0, 0, 0), -1);
        Due.is("n 301", x.tried(0, 301, 0, 0), -1);
        Due.is("n 300", x.tried(0, 300, 0, 2), 2);
        Due.is("much", x.tried(0, 1, 10000, 0), -1);
        Due.is("much", x.tried(0, 1, -10000, 0), -1);
        Due.is("what 5", x.tried(0, 1, 0, 5), -1);
        Due.is("what -1", x.tried(0, 1, 0, -1), -1);
        Due.is("best 0", x.best(0), -1);
        Due.is("best 301", x.best(301), -1);
        Due.is("best 300", x.best(300), 0);
        Due.is("far minder 1", x.far(1, 1, 0), -1);
        Due.is("far minder -1", x.far(-1, 1, 0), -1);
        Due.is("far n 0", x.far(0, 0, 0), -1);
        Due.is("far n 301", x.far(0, 301, 0), -1);
        Due.is("far n 300", x.far(0, 300, 9999), 100);
        Due.is("far within -1", x.far(0, 1, -1), -1);
        Due.is("far within 10000", x.far(0, 1, 10000), -1);
        x.grow(2);
        Due.is("it GROWS not: tried", x.tried(0, 1, 0, 4), 300);
        Due.is("it GROWS not: best", x.best(1), -1);
        Due.is("it GROWS not: far", x.far(0, 1, 9999), -1);
    }

    private static void best() {
        PulledCrystal x = Due.with("wide heat - 500", "heat 520");
        Due.minder(x, "heat 560 if minute < 2;heat 500");
        Due.minder(x, "heat 500 + want - seen");
        Due.minder(x, "heat 500 + want - seen");
        x.begin(0, 0, 99999, 400, 0, 300, 0, 900, 0);
        Due.is("for 1", x.best(1), 2);
        x.begin(0, 1, 99999, 400, 0, 360, 0, 900, 0);
        Due.is("of several the least number", x.best(2), 2);
        x.begin(0, 1, 99999, 400, 0, 380, 0, 900, 0);
        Due.is("for 1", x.best(1), 0);
        Due.is("for 2", x.best(2), 2);
        x.grow(1);
        Due.is("the MINDER stays", x.count(3), 560);
        // from WIDE itself, so much is 0: one step above it the other one would be nearer
        x = Due.with("wide heat - 500 if wide = 100;wide 500 - heat", "heat 500");
        Due.minder(x, "heat 510");
        x.begin(0, 0, 99999, 110, 0, 100, 0, 900, 0);
        Due.is("so much 0", x.best(1), 1);
    }

    private static void bestByHunts() {
        PulledCrystal x = Due.with("wide heat - 500", "heat 510 if minute = 0;heat 480 if minute = 1;heat 520");
        Due.minder(x, "heat 510 if minute = 0;heat 490 if minute = 1;heat 500");
        Due.minder(x, "heat 510 if minute = 0;heat 500");
        x.begin(0, 0, 99999, 400, 0, 400, 0, 900, 0);
        Due.is("wander of all", x.tried(0, 2, 0, 0), 10);
        Due.is("wander of all", x.tried(1, 2, 0, 0), 10);
        Due.is("hunts of 0", x.tried(0, 2, 0, 1), 1);
        Due.is("hunts of 1", x.tried(1, 2, 0, 1), 0);
        Due.is("the fewest HUNTS", x.best(2), 1);
        Due.minder(x, "heat 510 if minute = 0;heat 480 if minute = 1;heat 520");
        Due.is("wander of all", x.tried(3, 2, 0, 0), 10);
        Due.is("hunts of the last", x.tried(3, 2, 0, 1), 1);
        Due.is("more HUNTS behind fewer", x.best(2), 1);
        Due.is("the least number", x.best(1), 0);
    }

    private static void far() {
        PulledCrystal x = Due.with("wide 0", "pull 1");
        x.begin(0, 0, 99999, 400, 0, 300, 0, 900, 0);
        Due.is("not even with 0", x.far(0, 5, 99), -2);
        Due.is("0 alone", x.far(0, 5, 100), 0);
        Due.is("for a MINUTE", x.far(0, 1, 100), 0);
        Due.is("1 below is 101 away", x.far(0, 5, 101), 1);
        Due.is("99", x.far(0, 5, 199), 99);
        Due.is("100", x.far(0, 5, 200), 100);
        Due.is("no more than 100", x.far(0, 5, 999), 100);
        x.begin(0, 0, 99999, 300, 0, 400, 0, 900, 0);
        Due.is("1 above is 101 away", x.far(0, 5, 101), 1);
        Due.is("not even with 0", x.far(0, 5, 99), -2);
    }

    // A law that brings back all but what is 20 or 30 beside WIDE.
    private static void farBelow() {
        PulledCrystal x = Due.with("wide 0 if wide = 420;wide 400 - wide", "pull 1");
        Due.furnace(x, "wide 0 if wide = 370;wide 400 - wide");
        x.begin(0, 0, 99999, 400, 0, 400, 0, 900, 0);
        Due.is("each of them", x.far(0, 5, 19), 19);
        Due.is("each of them", x.far(0, 5, 20), 100);
        x.begin(1, 0, 99999, 400, 0, 400, 0, 900, 0);
        Due.is("each of them below", x.far(0, 5, 0), 29);
        x.begin(1, 0, 99999, 400, 0, 370, 0, 900, 0);
        Due.is("0 is one of them", x.far(0, 5, 0), -2);
    }
}
