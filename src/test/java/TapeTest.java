// Promises 1 to 3: a new object, feed, end.
public final class TapeTest {
    public static void main(String[] args) {
        newObject();
        feeding();
        ending();
        Due.done("TapeTest");
    }

    private static void newObject() {
        Due.is("NONE", PulledCrystal.NONE, -1);
        PulledCrystal x = new PulledCrystal();
        Due.is("state", x.state(), 0);
        for (int what = 0; what <= 12; what++) {
            Due.is("count " + what, x.count(what), 0);
        }
        Due.is("thin at first", x.thin(31), 30);
        for (int stuff = 0; stuff < 6; stuff++) {
            Due.is("put at first", x.stuff(stuff, 0, 5), 0);
            Due.is("share at first", x.stuff(stuff, 1, 5), 1000);
        }
        for (int k = 0; k < 4; k++) {
            Due.is("no image", x.back(k), -1);
        }
        Due.is("no furnace, no minder", x.begin(0, 0, 1, 1, 0, 1, 0, 1, 0), false);
    }

    private static void feeding() {
        PulledCrystal x = new PulledCrystal();
        for (int n = 1; n <= 20; n++) {
            Due.is("feed", x.feed(0, 0, 0, 0, 0), 20 * n);
        }
        Due.is("feed a full TAPE", x.feed(0, 0, 0, 0, 0), -1);
        Due.is("bytes of the TAPE", x.count(11), 400);
        Due.is("end", x.end(381), 381);
        Due.is("feed would have 401", x.feed(0, 0, 0, 0, 0), -1);
        Due.is("bytes of the TAPE", x.count(11), 381);
        Due.is("end", x.end(380), 380);
        Due.is("feed has 400", x.feed(0, 0, 0, 0, 0), 400);
        highestFirst();
    }

    // "wide 1" and fourteen bytes more, of which a text has the first six.
    private static void highestFirst() {
        PulledCrystal x = new PulledCrystal();
        x.feed(0x77696465, 0x20310000, 0, 0, 0);
        x.end(6);
        Due.is("furnace", x.furnace(), 0);
        x.feed(0x77696465, 0x20310000, 0, 0, 0);
        Due.is("furnace with a byte 0 at 6", x.furnace(), -2 - (1 + 8 * 6));
        x.feed(0xFF696465, 0, 0, 0, 0);
        Due.is("furnace with a byte 255", x.furnace(), -2 - 1);
        x.feed(0x77696465, 0x20202020, 0x20202020, 0x20202020, 0x20202020);
        x.feed(0x31202020, 0x20202020, 0x20202020, 0x20202020, 0x20202020);
        Due.is("furnace over two feeds", x.furnace(), 1);
    }

    private static void ending() {
        PulledCrystal x = new PulledCrystal();
        Due.is("end 0 of none", x.end(0), 0);
        Due.is("end 1 of none", x.end(1), -1);
        x.feed(1, 2, 3, 4, 5);
        Due.is("end below 0", x.end(-1), -1);
        Due.is("end beyond", x.end(21), -1);
        Due.is("bytes of the TAPE", x.count(11), 20);
        Due.is("end of all", x.end(20), 20);
        Due.is("end 7", x.end(7), 7);
        Due.is("bytes of the TAPE", x.count(11), 7);
        Due.is("end 8", x.end(8), -1);
        Due.is("end 0", x.end(0), 0);
        Due.is("bytes of the TAPE", x.count(11), 0);
        Due.is("end far beyond", x.end(Integer.MAX_VALUE), -1);
        Due.is("end far below", x.end(Integer.MIN_VALUE), -1);
    }
}
