// Promises 29, 32 to 34: choice, stripes, ring, awry.
public final class ChoiceTest {
    private static final int ALL = 1000000000;

    public static void main(String[] args) {
        choices();
        choiceByFault();
        choiceAtTheEnd();
        choiceChangesNothing();
        wrongChoice();
        stripes();
        wrongStripes();
        rings();
        awry();
        awryOfRowsThere();
        Due.done("ChoiceTest");
    }

    private static void choice(PulledCrystal x, int n, int which, int now, int later, int again) {
        int[] due = {which, now, later, again};
        for (int what = 0; what < 4; what++) {
            Due.is("choice " + n + " " + what, x.choice(n, what), due[what]);
        }
    }

    private static void choices() {
        PulledCrystal x = Due.with("wide 0", "pull 10");
        x.begin(0, 0, 99999, 70, 5, 320, 0, 900, 0);
        choice(x, 5, 0, 0, 0, 0);
        x.want(0, 0, ALL, 0, 30, 2);
        choice(x, 2, 0, 0, 0, 0);
        choice(x, 3, 1, 0, 60, 60);
        x.grow(4);
        choice(x, 1, 1, 80, 100, 100);
        choice(x, 300, 1, 80, 304 * 20, 304 * 20);
        x.thin(1);
        choice(x, 1, 1, 80, 100, 100);
    }

    private static void choiceByFault() {
        PulledCrystal x = Due.with("wide 0", "pull 10");
        x.begin(0, 0, 99999, 70, 5, 320, 0, 900, 0);
        x.grow(6);
        x.fault(4);
        x.fault(2);
        x.want(0, 0, ALL, 0, 10, 1);
        choice(x, 1, 2, 20, 20, 30);
        choice(x, 5, 2, 20, 20, 70);
        x.minds(0);
        x.melt(2);
        choice(x, 1, 1, 20, 30, 30);
        x.grow(1);
        x.fault(0);
        choice(x, 2, 2, 0, 0, 20);
    }

    // Behind its LIFE there is nothing to go on with; melted back it has fewer ROWS.
    private static void choiceAtTheEnd() {
        PulledCrystal x = Due.with("wide 0", "pull 10");
        x.begin(0, 0, 99999, 70, 5, 320, 0, 6, 0);
        x.grow(6);
        x.want(0, 0, ALL, 0, 10, 1);
        choice(x, 9, 0, 60, 60, 60);
        x.fault(5);
        choice(x, 9, 0, 50, 50, 50);
        x.begin(0, 0, 60, 70, 5, 320, 0, 7, 0);
        x.grow(6);
        Due.is("nothing LEFT", x.state(), 2);
        choice(x, 9, 0, 60, 60, 60);
        x.fault(3);
        choice(x, 9, 2, 30, 30, 40);
    }

    private static void choiceChangesNothing() {
        PulledCrystal x = Due.with("wide 0;swirl 20;gives 7", "pull 10;heat seen");
        x.stuff(0, 0, 5000);
        x.begin(0, 0, 99999, 70, 5, 320, 0, 900, 0);
        x.want(0, 0, ALL, 0, 10, 1);
        x.grow(4);
        x.fault(2);
        PulledCrystal z = Due.with("wide 0;swirl 20;gives 7", "pull 10;heat seen");
        z.stuff(0, 0, 5000);
        z.begin(0, 0, 99999, 70, 5, 320, 0, 900, 0);
        z.grow(4);
        x.choice(50, 0);
        x.grow(9);
        z.grow(9);
        for (int what = 0; what < 7; what++) {
            Due.is("count " + what, x.count(what), z.count(what));
        }
        Due.is("WIDE", x.row(12, 0), z.row(12, 0));
        Due.is("in the melt", x.much(0, -1), z.much(0, -1));
        Due.is("in the melt", x.much(5, -1), z.much(5, -1));
        Due.is("the FAULT", x.row(2, 6), 1);
    }

    private static void wrongChoice() {
        PulledCrystal x = Due.with("wide 0", "pull 10");
        Due.is("choice without a POT", x.choice(1, 0), -1);
        x.begin(0, 0, 99999, 70, 5, 320, 0, 900, 0);
        Due.is("n 0", x.choice(0, 0), -1);
        Due.is("n 301", x.choice(301, 0), -1);
        Due.is("n 300", x.choice(300, 0), 0);
        Due.is("what 4", x.choice(1, 4), -1);
        Due.is("what -1", x.choice(1, -1), -1);
    }

    private static void stripes() {
        PulledCrystal x = Due.with("wide 0;gives 9000", "pull 10 if minute / 2 * 2 = minute;pull 0");
        x.stuff(0, 0, 1000);
        x.begin(0, 0, 1000, 70, 5, 320, 0, 900, 0);
        x.grow(5);
        for (int row = 0; row < 5; row++) {
            Due.is("parts", x.parts(0, row), row % 2 == 0 ? 1000000 : 0);
        }
        Due.is("stripes", x.stripes(0, 0, 4, 0), 4);
        Due.is("stripes", x.stripes(0, 0, 4, 999999), 4);
        Due.is("a million isn't more than a million", x.stripes(0, 0, 4, 1000000), 0);
        Due.is("all but the first", x.stripes(0, 1, 3, 0), 2);
        Due.is("up alone", x.stripes(0, 1, 2, 0), 1);
        Due.is("down alone", x.stripes(0, 2, 3, 0), 1);
        Due.is("one ROW", x.stripes(0, 2, 2, 0), 0);
        Due.is("none of it", x.stripes(1, 0, 4, 0), 0);
        Due.is("far apart", x.stripes(0, 0, 4, ALL), 0);
        // 9000000, 0, 27 of 990 grams: 27171717 and so on
        Due.is("of STUFF 5", x.stripes(5, 0, 4, 9000000 - 1), 4);
        Due.is("of STUFF 5", x.stripes(5, 0, 4, 9000000), 3);
        x = Due.with("wide 0", "pull 10 + minute * 10");
        x.stuff(0, 0, 1000);
        x.stuff(0, 1, 500);
        x.begin(0, 0, 1000, 70, 5, 320, 0, 900, 0);
        x.grow(3);
        int[] parts = {500000, 500000, 500000};
        for (int row = 0; row < 3; row++) {
            Due.is("parts", x.parts(0, row), parts[row]);
        }
        Due.is("beside one another, not together", x.stripes(0, 0, 2, 100000), 0);
        Due.is("none", x.stripes(0, 0, 2, 0), 0);
    }

    private static void wrongStripes() {
        PulledCrystal x = Due.with("wide 0", "pull 10");
        Due.is("stripes without a POT", x.stripes(0, 0, 0, 0), -1);
        x.begin(0, 0, 1000, 70, 5, 320, 0, 900, 0);
        x.grow(3);
        Due.is("stuff 6", x.stripes(6, 0, 1, 0), -1);
        Due.is("stuff -1", x.stripes(-1, 0, 1, 0), -1);
        Due.is("from -1", x.stripes(0, -1, 1, 0), -1);
        Due.is("from behind", x.stripes(0, 3, 3, 0), -1);
        Due.is("to behind", x.stripes(0, 0, 3, 0), -1);
        Due.is("to ahead of from", x.stripes(0, 1, 0, 0), -1);
        Due.is("many -1", x.stripes(0, 0, 1, -1), -1);
        Due.is("many too great", x.stripes(0, 0, 1, ALL + 1), -1);
    }

    private static void rings() {
        PulledCrystal x = new PulledCrystal();
        Due.is("a ROW -1", x.ring(-1, 0), -1);
        Due.is("a ROW 600", x.ring(600, 0), -1);
        Due.is("seen -10000", x.ring(0, -10000), -1);
        Due.is("seen 20000", x.ring(0, 20000), -1);
        Due.is("RINGS", x.count(12), 0);
        for (int k = 1; k <= 200; k++) {
            Due.is("ring", x.ring(k % 2 == 0 ? 0 : 599, k % 3 == 0 ? -9999 : 19999), k);
            Due.is("RINGS", x.count(12), k);
        }
        Due.is("one more", x.ring(0, 0), -1);
        Due.is("RINGS", x.count(12), 200);
    }

    private static void awry(PulledCrystal x, int give, int least, int greatest, int many) {
        int[] due = {least, greatest, many};
        for (int what = 0; what < 3; what++) {
            Due.is("awry " + give + " " + what, x.awry(give, what), due[what]);
        }
    }

    private static void awry() {
        PulledCrystal x = new PulledCrystal();
        awry(x, 0, -500, 500, 1001);
        x.ring(0, 50);
        awry(x, 0, -500, 500, 1001);
        Due.is("give -1", x.awry(-1, 0), -2000);
        Due.is("give 10000", x.awry(10000, 0), -2000);
        Due.is("what 3", x.awry(0, 3), -2000);
        Due.is("what -1", x.awry(0, -1), -2000);
        x = Due.ofWides(100, 0, 1, 90, 105, 100, 121);
        awry(x, 0, -500, 500, 1001);
        x.ring(0, 97);
        awry(x, 0, 7, 7, 1);
        awry(x, 3, 4, 10, 7);
        awry(x, 9999, -500, 500, 1001);
        x.ring(1, 110);
        awry(x, 0, -1000, -1000, 0);
        awry(x, 1, 6, 6, 1);
        awry(x, 2, 5, 7, 3);
        x.ring(2, 82);
        awry(x, 12, -1000, -1000, 0);
        awry(x, 13, -6, -5, 2);
    }

    private static void awryOfRowsThere() {
        PulledCrystal x = Due.ofWides(100, 0, 1, 90, 105, 100, 121);
        x.ring(4, 1000);
        awry(x, 0, -500, 500, 1001);
        x.ring(3, 121 - 500);
        awry(x, 0, -500, -500, 1);
        x.melt(3);
        awry(x, 0, -500, 500, 1001);
        x.ring(2, 100 + 500);
        awry(x, 0, 500, 500, 1);
        awry(x, 7, 493, 500, 8);
        x.melt(2);
        x.ring(1, 105 + 501);
        awry(x, 0, -1000, -1000, 0);
        awry(x, 1, 500, 500, 1);
        x.melt(1);
        x.ring(0, 90 - 501);
        awry(x, 0, -1000, -1000, 0);
        awry(x, 1, -500, -500, 1);
        x.ring(0, -9999);
        x.ring(0, 19999);
        awry(x, 9999, -1000, -1000, 0);
    }
}
