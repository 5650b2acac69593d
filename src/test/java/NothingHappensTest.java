import java.util.ArrayList;
import java.util.List;

// Every refused call, promise by promise: its answer, and that nothing has happened. An object with the refused call and one
// without it are made alike, and many later calls, looks and changes, are answered alike by both.
public final class NothingHappensTest {
    private static final int ALL = 1000000000;
    private static final int MIN = Integer.MIN_VALUE;
    private static final int MAX = Integer.MAX_VALUE;

    interface Made {
        PulledCrystal make();
    }

    interface Call {
        long on(PulledCrystal x);
    }

    private static Made made = PulledCrystal::new;
    private static String where = "";

    public static void main(String[] args) {
        ofNew();
        ofGrowing();
        ofEnded();
        ofFull();
        ofFaultyTexts();
        Due.done("NothingHappensTest");
    }

    private static void with(String name, Made recipe) {
        where = name;
        made = recipe;
    }

    // The call is answered so, and nothing happens.
    private static void still(String call, long due, Call on) {
        PulledCrystal x = made.make();
        Due.is(where + ": " + call, on.on(x), due);
        alike(where + ": " + call, x, made.make());
    }

    // Whatever it answers, nothing happens.
    private static void asked(String call, Call on) {
        PulledCrystal x = made.make();
        on.on(x);
        alike(where + ": " + call, x, made.make());
    }

    private static void alike(String call, PulledCrystal x, PulledCrystal z) {
        List<String> told = tell(x);
        List<String> due = tell(z);
        int same = 0;
        while (same < told.size() && told.get(same).equals(due.get(same))) {
            same++;
        }
        String differs = same < told.size() ? told.get(same) + ", not " + due.get(same) : "";
        Due.is("nothing happens by " + call + ": " + differs, same == told.size(), true);
    }

    private static long n(boolean b) {
        return b ? 1 : 0;
    }

    // Some 200 looks and changes that see all that an object keeps.
    private static List<String> tell(PulledCrystal x) {
        List<String> told = new ArrayList<>();
        counts(x, told);
        rows(x, told);
        asks(x, told);
        told.add("the TAPE as a FURNACE: " + x.furnace());
        told.add("grow: " + x.grow(7));
        rows(x, told);
        told.add("fault: " + x.fault(x.count(0) - 3) + x.fault(9) + x.fault(0));
        told.add("melt: " + x.melt(x.count(0) - 2));
        told.add("grow: " + x.grow(4));
        counts(x, told);
        told.add("thin: " + x.thin(35));
        for (int stuff = 0; stuff < 6; stuff++) {
            told.add("put " + stuff + ": " + x.stuff(stuff, 0, 6));
            told.add("share " + stuff + ": " + x.stuff(stuff, 1, 6));
        }
        for (int k = 0; k < 4; k++) {
            told.add("back " + k + ": " + x.back(k));
            told.add("state, melt, LEFT: " + x.state() + " " + x.much(5, -1) + " " + x.count(1));
        }
        told.add("slice, ring, want: " + x.slice(1, 1, 1, 1) + " " + x.ring(1, 1) + " " + x.want(1, 1, 1, 1, 1, 1));
        told.add("grow: " + x.grow(3) + " " + x.count(2) + " " + x.count(3));
        told.add("begin: " + x.begin(x.count(7) - 1, 0, 9000, 300, 7, 200, 5, 9, 3) + x.grow(9) + " " + x.much(5, -1));
        return told;
    }

    private static void counts(PulledCrystal x, List<String> told) {
        told.add("state: " + x.state());
        for (int what = 0; what < 13; what++) {
            told.add("count " + what + ": " + x.count(what));
        }
        for (int stuff = 0; stuff < 6; stuff++) {
            told.add("in the melt " + stuff + ": " + x.much(stuff, -1));
        }
        told.add("faults, holds: " + x.faults() + " " + x.holds());
    }

    private static void rows(PulledCrystal x, List<String> told) {
        int last = x.count(0) - 1;
        for (int row : new int[] {0, last, last + 1}) {
            for (int what = 0; what < 7; what++) {
                told.add("row " + row + " " + what + ": " + x.row(row, what));
            }
            told.add("much, parts: " + x.much(0, row) + " " + x.parts(5, row));
        }
    }

    private static void asks(PulledCrystal x, List<String> told) {
        told.add("cut: " + x.cut() + " " + x.piece(-1, 0) + " " + x.whose(5) + " " + x.why(0, 0) + " " + x.why(9, 2));
        told.add("piece: " + x.piece(0, 0) + " " + x.piece(0, 1) + " " + x.piece(0, 2) + " " + x.piece(0, 3));
        told.add("wander: " + x.wander(0, x.count(0) - 1, 0) + " " + x.wander(0, x.count(0) - 1, 1));
        told.add("tried: " + x.tried(1, 5, 9, 0) + " " + x.tried(0, 5, -9, 4));
        told.add("enough: " + x.enough(0, 1000, 0, 90000, 1) + " " + x.enough(5, 10, 1000, 90000, 0));
        told.add("span: " + x.span(0, 2) + " " + x.span(5, 0) + " " + x.span(5, 1));
        told.add("awry: " + x.awry(50, 0) + " " + x.awry(50, 1) + " " + x.awry(50, 2));
        told.add("choice: " + x.choice(4, 0) + " " + x.choice(4, 1) + " " + x.choice(4, 2) + " " + x.choice(4, 3));
        told.add("stripes: " + x.stripes(5, 0, x.count(0) - 1, 1) + " best: " + x.best(5) + " far: " + x.far(0, 5, 80));
    }

    // Two FURNACES and MINDERS, 15 ROWS, three WANTS, IMAGE 1, and half a text on the TAPE.
    private static PulledCrystal growing() {
        PulledCrystal x = new PulledCrystal();
        Due.furnace(x, "wide 3 if minute < 3;wide (want - wide) / 4 + heat / 100;swirl 7;late 1;gives 90");
        Due.furnace(x, "wide 2");
        Due.minder(x, "pull 20;heat 300 + minute");
        Due.minder(x, "pull 30;heat heat + 5");
        stuffs(x, 5000);
        x.begin(0, 0, 50000, 400, 20, 25, 77, 60, 45);
        asTold(x);
        x.grow(12);
        x.fault(9);
        x.image(1);
        x.grow(3);
        return x;
    }

    private static void stuffs(PulledCrystal x, int much) {
        for (int stuff = 0; stuff < 6; stuff++) {
            x.stuff(stuff, 0, much + stuff);
            x.stuff(stuff, 1, 700 + 100 * stuff);
        }
    }

    private static void asTold(PulledCrystal x) {
        stuffs(x, 300);
        x.thin(40);
        x.want(0, 0, ALL, 0, 30, 4);
        x.want(5, 0, 99000, 200, 20, 5);
        x.want(1, 1000, ALL, 350, 60, 6);
        x.slice(4, 0, 60000, 50000);
        x.slice(5, 5, 70000, 60000);
        x.ring(2, 160);
        x.ring(40, 17);
        Due.tape(x, "wide 5;swirl 3");
    }

    private static void ofNew() {
        with("a new object", PulledCrystal::new);
        still("furnace of an empty TAPE", -3, PulledCrystal::furnace);
        still("minder of an empty TAPE", -3, PulledCrystal::minder);
        still("end 1", -1, x -> x.end(1));
        still("begin", 0, x -> n(x.begin(0, 0, 1, 1, 0, 1, 0, 1, 0)));
        still("minds", 0, x -> n(x.minds(0)));
        still("row", -1, x -> x.row(0, 0));
        still("much of a ROW", -1, x -> x.much(0, 0));
        still("much in the melt", 0, x -> x.much(5, -1));
        still("parts", -1, x -> x.parts(0, 0));
        still("piece NONE", 0, x -> x.piece(-1, 0));
        still("piece 0", -1, x -> x.piece(0, 0));
        still("cut", 0, PulledCrystal::cut);
        still("whose", -2, x -> x.whose(0));
        still("why", -1, x -> x.why(0, 0));
        still("back", -1, x -> x.back(0));
        withoutPot();
        with("without a POT", NothingHappensTest::allButThePot);
        withoutPot();
        still("minds", 0, x -> n(x.minds(0)));
        still("whose", -2, x -> x.whose(0));
        still("why", -1, x -> x.why(0, 0));
        still("piece 0", -1, x -> x.piece(0, 0));
        still("tried", -1, x -> x.tried(0, 1, 0, 4));
        still("best", -1, x -> x.best(1));
        still("far", -1, x -> x.far(0, 1, 0));
    }

    private static PulledCrystal allButThePot() {
        PulledCrystal x = Due.with("wide 3;gives 5", "pull 4;heat 9");
        asTold(x);
        return x;
    }

    private static void withoutPot() {
        for (int n : new int[] {0, 1, 600, -1, 601}) {
            still("grow " + n, -1, x -> x.grow(n));
        }
        for (int row : new int[] {0, -1, 599, MAX, MIN}) {
            still("melt " + row, -1, x -> x.melt(row));
            still("fault " + row, 0, x -> n(x.fault(row)));
        }
        still("faults", -1, PulledCrystal::faults);
        still("holds", -1, PulledCrystal::holds);
        still("enough", -1, x -> x.enough(0, 1, 0, ALL, 1));
        still("wander", -1, x -> x.wander(0, 0, 0));
        still("span", -1, x -> x.span(0, 2));
        still("choice", -1, x -> x.choice(1, 0));
        still("stripes", -1, x -> x.stripes(0, 0, 0, 0));
    }

    private static void ofGrowing() {
        with("it GROWS", NothingHappensTest::growing);
        refusedEnds();
        refusedStuffs();
        refusedBegins();
        refusedGrowth();
        refusedRows();
        refusedMelts();
        refusedWants();
        refusedOfCut();
        refusedShares();
        refusedWander();
        refusedTries();
        refusedSlices();
        refusedStripes();
        refusedImages();
        askingAlone();
    }

    private static void refusedEnds() {
        for (int n : new int[] {-1, 15, 400, MIN, MAX}) {
            still("end " + n, -1, x -> x.end(n));
        }
        still("end of all there is", 14, x -> x.end(14));
    }

    private static void refusedStuffs() {
        for (int s : new int[] {-1, 6, MIN, MAX}) {
            still("stuff " + s + " 0", -1, x -> x.stuff(s, 0, 5));
            still("stuff " + s + " 1", -1, x -> x.stuff(s, 1, 5));
        }
        for (int what : new int[] {-1, 2, MIN, MAX}) {
            still("stuff what " + what, -1, x -> x.stuff(3, what, 5));
        }
        for (int n : new int[] {-1, 1000000000, MIN, MAX}) {
            still("put " + n, -1, x -> x.stuff(3, 0, n));
        }
        for (int n : new int[] {-1, 2001, MIN, MAX}) {
            still("share " + n, -1, x -> x.stuff(3, 1, n));
        }
    }

    // Of each number the first below and above what is taken, and those farthest away.
    private static void refusedBegins() {
        int[] good = {1, 1, 5000, 300, 9, 100, 6, 50, 7};
        int[][] bad = {{-1, 2, 3, 4, MIN, MAX}, {-1, 2, 3, 7, 8, MIN, MAX}, {0, 100000, -1, MAX}, {0, 10000, -1, MAX}, {-1, 1000, MIN, MAX},
            {0, 10000, -1, MAX}, {-1, MIN}, {0, 901, -1, MAX}, {-1, 1000, MIN, MAX}};
        for (int k = 0; k < 9; k++) {
            for (int n : bad[k]) {
                int[] of = good.clone();
                of[k] = n;
                still("begin with " + n + " in place " + k, 0,
                        x -> n(x.begin(of[0], of[1], of[2], of[3], of[4], of[5], of[6], of[7], of[8])));
            }
        }
    }

    private static void refusedGrowth() {
        for (int minder : new int[] {-1, 2, 7, MIN, MAX}) {
            still("minds " + minder, 0, x -> n(x.minds(minder)));
        }
        for (int n : new int[] {-1, 601, MIN, MAX}) {
            still("grow " + n, -1, x -> x.grow(n));
        }
        still("grow 0", 0, x -> x.grow(0));
        for (int what : new int[] {-1, 13, MIN, MAX}) {
            still("count " + what, -1, x -> x.count(what));
        }
    }

    private static void refusedRows() {
        for (int row : new int[] {-1, 15, 599, 600, MIN, MAX}) {
            still("row " + row, -1, x -> x.row(row, 0));
            still("parts " + row, -1, x -> x.parts(0, row));
            still("much " + row, -1, x -> x.much(5, row == -1 ? -2 : row));
            still("whose " + row, -2, x -> x.whose(row));
            still("why " + row, -1, x -> x.why(row, 0));
        }
        for (int what : new int[] {-1, 7, MIN, MAX}) {
            still("row 0 " + what, -1, x -> x.row(0, what));
        }
        for (int s : new int[] {-1, 6, MIN, MAX}) {
            still("much of STUFF " + s, -1, x -> x.much(s, 0));
            still("much in the melt of STUFF " + s, -1, x -> x.much(s, -1));
            still("parts of STUFF " + s, -1, x -> x.parts(s, 0));
        }
        for (int want : new int[] {-1, 3, 4, 7, 8, MIN, MAX}) {
            still("why of WANT " + want, -1, x -> x.why(0, want));
        }
    }

    private static void refusedMelts() {
        for (int row : new int[] {-1, 15, 600, MIN, MAX}) {
            still("melt " + row, -1, x -> x.melt(row));
            still("fault " + row, 0, x -> n(x.fault(row)));
        }
        still("a FAULT that is told already", 0, x -> n(x.fault(9)));
        for (int n : new int[] {0, -1, 10000, MIN, MAX}) {
            still("thin " + n, -1, x -> x.thin(n));
        }
        still("thin as it is", 40, x -> x.thin(40));
    }

    private static void refusedWants() {
        int[] good = {1, 5, 6, 7, 8, 9};
        int[][] bad = {{-1, 6, MIN, MAX}, {-1, 7, MIN, MAX}, {4, ALL + 1, -1, MIN, MAX}, {-1, 10000, MIN, MAX},
            {0, 10000, -1, MIN, MAX}, {0, 1000, -1, MIN, MAX}};
        for (int k = 0; k < 6; k++) {
            for (int n : bad[k]) {
                int[] of = good.clone();
                of[k] = n;
                still("want with " + n + " in place " + k, -1, x -> x.want(of[0], of[1], of[2], of[3], of[4], of[5]));
            }
        }
    }

    private static void refusedOfCut() {
        int pieces = growing().piece(-1, 0);
        Due.is("there are PIECES", pieces > 1, true);
        for (int k : new int[] {-2, pieces, MIN, MAX}) {
            still("piece " + k, -1, x -> x.piece(k, 0));
        }
        for (int what : new int[] {-1, 4, MIN, MAX}) {
            still("piece 0 " + what, -1, x -> x.piece(0, what));
        }
    }

    private static void refusedShares() {
        int[] good = {1, 5, 6, 7, 1};
        int[][] bad = {{-1, 6, MIN, MAX}, {0, 10000000, -1, MIN, MAX}, {-1, 8, MIN, MAX}, {5, ALL + 1, -1, MIN, MAX},
            {-1, 2, MIN, MAX}};
        for (int k = 0; k < 5; k++) {
            for (int n : bad[k]) {
                int[] of = good.clone();
                of[k] = n;
                still("enough with " + n + " in place " + k, -1, x -> x.enough(of[0], of[1], of[2], of[3], of[4]));
            }
        }
        for (int s : new int[] {-1, 6, MIN, MAX}) {
            still("span of STUFF " + s, -1, x -> x.span(s, 2));
        }
        for (int what : new int[] {-1, 3, MIN, MAX}) {
            still("span what " + what, -1, x -> x.span(0, what));
        }
    }

    private static void refusedWander() {
        for (int row : new int[] {-1, 15, MIN, MAX}) {
            still("wander from " + row, -1, x -> x.wander(row, 14, 0));
            still("wander to " + row, -1, x -> x.wander(0, row, 0));
        }
        still("wander backwards", -1, x -> x.wander(5, 4, 0));
        for (int what : new int[] {-1, 2, MIN, MAX}) {
            still("wander what " + what, -1, x -> x.wander(0, 14, what));
        }
    }

    private static void refusedTries() {
        int[] good = {1, 5, 9, 2};
        int[][] bad = {{-1, 2, MIN, MAX}, {0, 301, -1, MIN, MAX}, {-10000, 10000, MIN, MAX}, {-1, 5, MIN, MAX}};
        for (int k = 0; k < 4; k++) {
            for (int n : bad[k]) {
                int[] of = good.clone();
                of[k] = n;
                still("tried with " + n + " in place " + k, -1, x -> x.tried(of[0], of[1], of[2], of[3]));
            }
        }
        for (int n : new int[] {0, 301, -1, MIN, MAX}) {
            still("best " + n, -1, x -> x.best(n));
            still("choice " + n, -1, x -> x.choice(n, 0));
            still("far for " + n, -1, x -> x.far(0, n, 50));
        }
        for (int what : new int[] {-1, 4, MIN, MAX}) {
            still("choice what " + what, -1, x -> x.choice(5, what));
        }
        for (int minder : new int[] {-1, 2, MIN, MAX}) {
            still("far with MINDER " + minder, -1, x -> x.far(minder, 5, 50));
        }
        for (int within : new int[] {-1, 10000, MIN, MAX}) {
            still("far within " + within, -1, x -> x.far(0, 5, within));
        }
    }

    private static void refusedSlices() {
        int[] good = {1, 5, 6, 7};
        int[][] bad = {{-1, 600, MIN, MAX}, {-1, 6, MIN, MAX}, {-1, ALL + 1, MIN, MAX}, {-1, ALL + 1, MIN, MAX}};
        for (int k = 0; k < 4; k++) {
            for (int n : bad[k]) {
                int[] of = good.clone();
                of[k] = n;
                still("slice with " + n + " in place " + k, -1, x -> x.slice(of[0], of[1], of[2], of[3]));
            }
        }
        for (int row : new int[] {-1, 600, MIN, MAX}) {
            still("ring of ROW " + row, -1, x -> x.ring(row, 5));
        }
        for (int seen : new int[] {-10000, 20000, MIN, MAX}) {
            still("ring seen " + seen, -1, x -> x.ring(5, seen));
        }
    }

    private static void refusedStripes() {
        int[] good = {1, 2, 9, 50};
        int[][] bad = {{-1, 6, MIN, MAX}, {-1, 10, 15, MIN, MAX}, {-1, 1, 15, MIN, MAX}, {-1, ALL + 1, MIN, MAX}};
        for (int k = 0; k < 4; k++) {
            for (int n : bad[k]) {
                int[] of = good.clone();
                of[k] = n;
                still("stripes with " + n + " in place " + k, -1, x -> x.stripes(of[0], of[1], of[2], of[3]));
            }
        }
        for (int give : new int[] {-1, 10000, MIN, MAX}) {
            still("awry give " + give, -2000, x -> x.awry(give, 0));
        }
        for (int what : new int[] {-1, 3, MIN, MAX}) {
            still("awry what " + what, -2000, x -> x.awry(5, what));
        }
    }

    private static void refusedImages() {
        for (int k : new int[] {-1, 4, MIN, MAX}) {
            still("image " + k, -1, x -> x.image(k));
            still("back " + k, -1, x -> x.back(k));
        }
        for (int k : new int[] {0, 2, 3}) {
            still("back to IMAGE " + k + " that was never made", -1, x -> x.back(k));
        }
    }

    // What is asked as if, and what is asked alone, changes nothing either.
    private static void askingAlone() {
        asked("tried", x -> x.tried(1, 300, 9, 0));
        asked("tried to WIDE 0", x -> x.tried(1, 300, -9999, 4));
        asked("best", x -> x.best(300));
        asked("choice", x -> x.choice(300, 0));
        asked("far", x -> x.far(1, 300, 9999));
        asked("span", x -> x.span(0, 0));
        asked("enough", x -> x.enough(5, 9999999, 0, ALL, 0));
        asked("cut", PulledCrystal::cut);
        asked("whose", x -> x.whose(5));
        asked("piece", x -> x.piece(-1, 0));
        asked("awry", x -> x.awry(5, 0));
        asked("stripes", x -> x.stripes(0, 0, 14, 0));
        asked("wander", x -> x.wander(0, 14, 1));
        asked("holds", PulledCrystal::holds);
        asked("faults", PulledCrystal::faults);
        asked("row", x -> x.row(14, 4));
    }

    // Ended by a WIDE of 0, by 600 ROWS, by LIFE, or by nothing LEFT: 3, 4, 5, 2.
    private static PulledCrystal ended(int how) {
        String[] laws = {"", "", "wide 0;gives 7", "wide 0 - 50;gives 7", "wide 0;gives 7", "wide 1;swirl 5"};
        PulledCrystal x = Due.with(laws[how], "pull 10;heat 50 + minute");
        Due.minder(x, "pull 9");
        stuffs(x, 5000);
        x.begin(0, 0, how == 2 ? 400 : 99999, 400, 20, how == 4 ? 99 : 320, 77, how == 5 ? 20 : 900, 45);
        asTold(x);
        x.grow(6);
        x.fault(3);
        x.image(1);
        x.grow(600);
        Due.is("ENDED", x.state(), how);
        return x;
    }

    private static void ofEnded() {
        for (int how = 2; how <= 5; how++) {
            int end = how;
            with("ENDED by " + how, () -> ended(end));
            int rows = ended(how).count(0);
            for (int n : new int[] {0, 1, 600}) {
                still("grow " + n, 0, x -> x.grow(n));
            }
            still("grow 601", -1, x -> x.grow(601));
            still("melt the ROW behind the last", -1, x -> x.melt(rows));
            still("fault of the ROW behind the last", 0, x -> n(x.fault(rows)));
            still("best", -1, x -> x.best(1));
            still("far", -1, x -> x.far(0, 1, 9999));
            for (int what = 0; what < 4; what++) {
                int which = what;
                still("tried " + what, 0, x -> x.tried(1, 9, 5, which));
            }
            still("tried 4", ended(how).count(2) + 5, x -> x.tried(1, 9, 5, 4));
            asked("choice", x -> x.choice(300, 0));
        }
    }

    private static PulledCrystal fullOfLaws() {
        PulledCrystal x = new PulledCrystal();
        for (int k = 0; k < 8; k++) {
            Due.minder(x, "pull " + (k + 1));
            x.want(k % 6, k, ALL, k, 10, k + 1);
        }
        for (int k = 0; k < 4; k++) {
            Due.furnace(x, "wide " + k);
        }
        x.begin(3, 7, 9000, 300, 7, 200, 5, 90, 3);
        x.grow(4);
        Due.tape(x, "pull 5;heat 3");
        return x;
    }

    private static PulledCrystal fullTape(String text, int size) {
        PulledCrystal x = Due.with("wide 1", "pull 2");
        Due.tape(x, text + " ".repeat(size - text.length()));
        return x;
    }

    private static PulledCrystal fullOf(int slices, int rings) {
        PulledCrystal x = Due.with("wide 1;gives 100", "pull 2");
        x.begin(0, 0, 9000, 300, 7, 200, 5, 90, 3);
        x.grow(9);
        for (int k = 0; k < slices; k++) {
            x.slice(k % 9, 5, 5000, 5000 + k);
        }
        for (int k = 0; k < rings; k++) {
            x.ring(k % 9, 200 + k % 50);
        }
        return x;
    }

    private static void ofFull() {
        with("4 FURNACES, 8 MINDERS, 8 WANTS", NothingHappensTest::fullOfLaws);
        still("a fifth furnace", -1, PulledCrystal::furnace);
        still("a ninth minder", -1, PulledCrystal::minder);
        still("a ninth want", -1, x -> x.want(0, 0, ALL, 0, 1, 999));
        still("furnace 4", 0, x -> n(x.begin(4, 0, 1, 1, 0, 1, 0, 1, 0)));
        still("minder 8", 0, x -> n(x.begin(0, 8, 1, 1, 0, 1, 0, 1, 0)));
        still("minds 8", 0, x -> n(x.minds(8)));
        still("why of WANT 8", -1, x -> x.why(0, 8));
        with("400 bytes", () -> fullTape("wide 7", 400));
        still("feed", -1, x -> x.feed(1, 2, 3, 4, 5));
        still("end 401", -1, x -> x.end(401));
        still("end 400", 400, x -> x.end(400));
        with("381 bytes", () -> fullTape("wide 7", 381));
        still("feed", -1, x -> x.feed(1, 2, 3, 4, 5));
        with("100 SLICES", () -> fullOf(100, 0));
        still("one more slice", -1, x -> x.slice(0, 5, 0, 0));
        with("200 RINGS", () -> fullOf(0, 200));
        still("one more ring", -1, x -> x.ring(0, -9999));
    }

    // A text with a FAULT leaves the TAPE empty, and nothing else happens.
    private static void ofFaultyTexts() {
        String[] faulty = {"wide 1;swirl 9;late 9;gives 9;wide", "wide 1;wide 123456", "pull 9;heat 9;heat"};
        for (String text : faulty) {
            PulledCrystal x = growing();
            Due.tape(x, text);
            Due.is("faulty: " + text, (text.startsWith("w") ? x.furnace() : x.minder()) < -2, true);
            PulledCrystal z = growing();
            z.end(0);
            alike("a FAULT of " + text, x, z);
        }
    }
}
