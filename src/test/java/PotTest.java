// Promises 6 to 11: stuff, begin, minds, grow, state, count.
public final class PotTest {
    public static void main(String[] args) {
        stuffs();
        beginning();
        minding();
        growing();
        states();
        firstOfStates();
        counts();
        Due.done("PotTest");
    }

    private static void stuffs() {
        PulledCrystal x = new PulledCrystal();
        for (int stuff = 0; stuff < 6; stuff++) {
            Due.is("put", x.stuff(stuff, 0, 999999999), 0);
            Due.is("put again", x.stuff(stuff, 0, stuff), 999999999);
            Due.is("share", x.stuff(stuff, 1, 2000), 1000);
            Due.is("share again", x.stuff(stuff, 1, 0), 2000);
            Due.is("share again", x.stuff(stuff, 1, 7), 0);
            Due.is("too much put", x.stuff(stuff, 0, 1000000000), -1);
            Due.is("put below 0", x.stuff(stuff, 0, -1), -1);
            Due.is("share too great", x.stuff(stuff, 1, 2001), -1);
            Due.is("share below 0", x.stuff(stuff, 1, -1), -1);
            Due.is("what 2", x.stuff(stuff, 2, 1), -1);
            Due.is("what -1", x.stuff(stuff, -1, 1), -1);
            Due.is("nothing happened", x.stuff(stuff, 0, 1), stuff);
            Due.is("nothing happened", x.stuff(stuff, 1, 1), 7);
        }
        Due.is("stuff 6", x.stuff(6, 0, 1), -1);
        Due.is("stuff -1", x.stuff(-1, 1, 1), -1);
        toldAheadAlone();
    }

    private static void toldAheadAlone() {
        PulledCrystal x = Due.with("wide 0", "pull 10");
        x.stuff(2, 0, 500);
        x.stuff(2, 1, 500);
        x.begin(0, 0, 1000, 100, 0, 1000, 0, 900, 0);
        x.stuff(2, 0, 80);
        x.stuff(2, 1, 2000);
        Due.is("in the melt", x.much(2, -1), 500);
        x.grow(1);
        Due.is("half of a tenth", x.much(2, 0), 25);
        Due.is("in the melt", x.much(2, -1), 475);
        Due.is("put stays as told", x.stuff(2, 0, 80), 80);
        x.begin(0, 0, 1000, 100, 0, 1000, 0, 900, 0);
        x.grow(1);
        Due.is("twice a tenth, as told for this POT", x.much(2, 0), 16);
    }

    private static void beginning() {
        PulledCrystal x = Due.with("wide 0", "pull 1");
        Due.is("state", x.state(), 0);
        Due.is("no furnace 1", x.begin(1, 0, 1, 1, 0, 1, 0, 1, 0), false);
        Due.is("no furnace -1", x.begin(-1, 0, 1, 1, 0, 1, 0, 1, 0), false);
        Due.is("no minder 1", x.begin(0, 1, 1, 1, 0, 1, 0, 1, 0), false);
        Due.is("no minder -1", x.begin(0, -1, 1, 1, 0, 1, 0, 1, 0), false);
        int[] low = {0, 0, 1, 1, 0, 1, 0, 1, 0};
        int[] high = {0, 0, 99999, 9999, 999, 9999, Integer.MAX_VALUE, 900, 999};
        for (int k = 2; k < 9; k++) {
            int[] below = low.clone();
            below[k] = low[k] - 1;
            Due.is("below low " + k, begin(x, below), false);
            if (high[k] != Integer.MAX_VALUE) {
                int[] above = high.clone();
                above[k] = high[k] + 1;
                Due.is("above high " + k, begin(x, above), false);
            }
        }
        Due.is("nothing happened", x.state(), 0);
        Due.is("lowest", begin(x, low), true);
        Due.is("state", x.state(), 1);
        Due.is("highest", begin(x, high), true);
        Due.is("grams", x.count(1), 99999);
        Due.is("not begun", begin(x, new int[] {0, 0, 0, 1, 0, 1, 0, 1, 0}), false);
        Due.is("the POT is as it was", x.count(1), 99999);
    }

    private static boolean begin(PulledCrystal x, int[] of) {
        return x.begin(of[0], of[1], of[2], of[3], of[4], of[5], of[6], of[7], of[8]);
    }

    private static void minding() {
        PulledCrystal x = Due.with("wide 0", "pull 1");
        Due.minder(x, "pull 2;heat 7");
        Due.is("minds without a POT", x.minds(0), false);
        x.begin(0, 0, 1000, 100, 50, 100, 0, 3, 0);
        Due.is("minds none", x.minds(2), false);
        Due.is("minds none", x.minds(-1), false);
        x.grow(1);
        Due.is("minds", x.minds(1), true);
        Due.is("not before a MINUTE", x.count(4), 1);
        x.grow(1);
        Due.is("PULL", x.count(4), 2);
        Due.is("HEAT", x.count(3), 7);
        Due.is("minds the same", x.minds(1), true);
        Due.is("minds again", x.minds(0), true);
        x.grow(1);
        Due.is("PULL", x.count(4), 1);
        Due.is("HEAT as it was", x.count(3), 7);
        Due.is("state", x.state(), 5);
        Due.is("minds, though ENDED", x.minds(1), true);
        x.begin(0, 0, 1000, 100, 50, 100, 0, 3, 0);
        Due.is("PULL is 0 at first", x.count(4), 0);
        Due.is("HEAT as begun with", x.count(3), 50);
        x.grow(1);
        Due.is("begun with minder 0", x.row(0, 2), 1);
    }

    private static void growing() {
        PulledCrystal x = Due.with("wide 0", "pull 1");
        Due.is("grow without a POT", x.grow(1), -1);
        x.begin(0, 0, 1000, 100, 50, 100, 0, 900, 0);
        Due.is("grow -1", x.grow(-1), -1);
        Due.is("grow 601", x.grow(601), -1);
        Due.is("grow 0", x.grow(0), 0);
        Due.is("ROWS", x.count(0), 0);
        Due.is("grow 1", x.grow(1), 1);
        Due.is("grow 9", x.grow(9), 9);
        Due.is("ROWS", x.count(0), 10);
        Due.is("grow 600", x.grow(600), 590);
        Due.is("state", x.state(), 4);
        Due.is("grow an ENDED one", x.grow(600), 0);
        Due.is("grow an ENDED one, wrong", x.grow(601), -1);
        x.begin(0, 0, 1000, 100, 50, 100, 0, 900, 0);
        Due.is("grow all", x.grow(600), 600);
    }

    private static void states() {
        PulledCrystal x = Due.with("wide 0-40", "pull 10");
        Due.furnace(x, "wide 0");
        Due.is("without a POT", x.state(), 0);
        x.begin(0, 0, 1000, 100, 50, 100, 0, 900, 0);
        Due.is("it grows", x.state(), 1);
        x.grow(2);
        Due.is("it grows", x.state(), 1);
        Due.is("till WIDE is 0", x.grow(5), 1);
        Due.is("WIDE 0", x.state(), 3);
        x.begin(1, 0, 1000, 100, 50, 1000, 0, 900, 0);
        x.grow(9);
        Due.is("it grows", x.state(), 1);
        Due.is("till nothing is LEFT", x.grow(5), 1);
        Due.is("nothing LEFT", x.state(), 2);
        Due.is("LEFT", x.count(1), 0);
        x.begin(1, 0, 1000, 100, 50, 100, 0, 7, 0);
        x.grow(6);
        Due.is("it grows", x.state(), 1);
        Due.is("till its LIFE is over", x.grow(5), 1);
        Due.is("LIFE over", x.state(), 5);
    }

    private static void firstOfStates() {
        PulledCrystal x = Due.with("wide 0-1000 if minute = 1", "pull 10 if minute = 0;pull 0");
        x.begin(0, 0, 100, 100, 0, 1000, 0, 1, 0);
        x.grow(1);
        Due.is("nothing LEFT is ahead of LIFE", x.state(), 2);
        x.begin(0, 0, 101, 100, 0, 1000, 0, 2, 0);
        x.grow(2);
        Due.is("WIDE 0 is ahead of LIFE", x.state(), 3);
        x = Due.with("wide 0-9999 if minute=599", "pull 0 if minute < 599; pull 10");
        Due.furnace(x, "wide 0");
        x.begin(0, 0, 101, 100, 0, 1000, 0, 900, 0);
        x.grow(600);
        Due.is("WIDE 0 is ahead of 600 ROWS", x.state(), 3);
        x.begin(1, 0, 100, 100, 0, 1000, 0, 900, 0);
        x.grow(600);
        Due.is("nothing LEFT is ahead of 600 ROWS", x.state(), 2);
        x.begin(1, 0, 101, 100, 0, 1000, 0, 600, 0);
        x.grow(600);
        Due.is("600 ROWS are ahead of LIFE", x.state(), 4);
    }

    private static void counts() {
        PulledCrystal x = Due.with("wide 5;gives 3", "pull 20;heat 300 + minute");
        Due.is("count -1", x.count(-1), -1);
        Due.is("count 13", x.count(13), -1);
        x.begin(0, 0, 5000, 100, 50, 90, 0, 900, 0);
        int[] ahead = {0, 5000, 90, 50, 0, 0, 0, 1, 1, 0, 0, 0, 0};
        for (int what = 0; what < 13; what++) {
            Due.is("count ahead " + what, x.count(what), ahead[what]);
        }
        x.grow(3);
        x.melt(2);
        x.want(0, 0, 0, 0, 1, 1);
        x.want(0, 0, 0, 0, 1, 1);
        x.slice(0, 0, 0, 0);
        x.slice(0, 0, 0, 0);
        x.slice(0, 0, 0, 0);
        x.ring(0, 0);
        Due.minder(x, "pull 0");
        Due.tape(x, "seven b");
        int[] behind = {2, 5000 - 1 - 2, 100, 301, 20, 40, 3, 1, 2, 2, 3, 7, 1};
        for (int what = 0; what < 13; what++) {
            Due.is("count behind " + what, x.count(what), behind[what]);
        }
    }
}
