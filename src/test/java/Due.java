// What every test needs: a count of the answers that are not due, and texts as bytes on the TAPE.
final class Due {
    private static int asked = 0;
    private static int wrong = 0;

    private Due() {
    }

    static void is(String call, long got, long due) {
        asked++;
        if (got != due) {
            wrong++;
            System.out.println(call + " answered " + got + ", due is " + due);
        }
    }

    static void is(String call, boolean got, boolean due) {
        is(call, got ? 1 : 0, due ? 1 : 0);
    }

    static void done(String test) {
        System.out.println(test + ": " + asked + " answers, " + wrong + " not as due");
        if (wrong != 0) {
            System.exit(1);
        }
    }

    static void tape(PulledCrystal x, String text) {
        for (int at = 0; at < text.length(); at += 20) {
            int[] five = new int[5];
            for (int k = 0; k < 20; k++) {
                int next = at + k < text.length() ? text.charAt(at + k) : 0;
                five[k / 4] = five[k / 4] << 8 | next;
            }
            x.feed(five[0], five[1], five[2], five[3], five[4]);
        }
        x.end(text.length());
    }

    static PulledCrystal with(String furnace, String minder) {
        PulledCrystal x = new PulledCrystal();
        is("furnace " + furnace, furnace(x, furnace), 0);
        is("minder " + minder, minder(x, minder), 0);
        return x;
    }

    static int furnace(PulledCrystal x, String text) {
        tape(x, text);
        return x.furnace();
    }

    static int minder(PulledCrystal x, String text) {
        tape(x, text);
        return x.minder();
    }

    // One ROW of each WIDE.
    static PulledCrystal ofWides(int want, int faults, int pull, int... wides) {
        PulledCrystal x = new PulledCrystal();
        StringBuilder text = new StringBuilder("wide ");
        for (int row = 0; row < wides.length; row++) {
            text.append(row == 0 ? "0" : "").append("+ (").append(wides[row]).append(" - wide) * (1 / (1 + (minute - ").append(row);
            text.append(")*(minute-").append(row).append(")))");
        }
        is(text.toString(), furnace(x, text.toString()), 0);
        minder(x, "pull " + pull);
        x.begin(0, 0, 99999, want, 0, 100, 0, 900, faults);
        x.grow(wides.length);
        for (int row = 0; row < wides.length; row++) {
            is("WIDE of ROW " + row, x.row(row, 0), wides[row]);
        }
        return x;
    }
}
