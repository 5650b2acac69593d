// What every test needs: a count of the answers that are not due, and texts as bytes on the TAPE.
final class Due {
    private static int asked = 0;
    private static int wrong = 0;

    private Due() {
    }

    static void is(String call, long got, long due) {
        asked++;
        if (got != due) {
            wrong++;
            System.out.println(call + " answered " + got + ", due is " + due);
        }
    }

    static void is(String call, boolean got, boolean due) {
        is(call, got ? 1 : 0, due ? 1 : 0);
    }

    static void done(String test) {
        System.out.println(test + ": " + asked + " answers, " + wrong + " not as due");
        if (wrong != 0) {
            System.exit(1);
        }
    }

    static void tape(PulledCrystal x, String text) {
        for (int at = 0; at < text.length(); at += 20) {
            int[] five = new int[5];
            for (int k = 0; k < 20; k++) {
                int next = at + k < text.length() ? text.charAt(at + k) : 0;
                five[k / 4] = five[k / 4] << 8 | next;
            }
            x.feed(five[0], five[1], five[2], five[3], five[4]);
        }
        x.end(text.length());
    }

    static int furnace(PulledCrystal x, String text) {
        tape(x, text);
        return x.furnace();
    }

    static int minder(PulledCrystal x, String text) {
        tape(x, text);
        return x.minder();
    }
}
