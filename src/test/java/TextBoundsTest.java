// Promises 1 to 5 and Terms, I: each sentence with a bound, on both sides of it.
public final class TextBoundsTest {
    private static final String FIFTY_NINE = "1" + "+1".repeat(58);

    public static void main(String[] args) {
        nothingIsShared();
        twentyBytesInOrder();
        fourHundredBytes();
        fourHundredBytesOfText();
        firstBytesAlone();
        furnacesZeroToThree();
        mindersZeroToSeven();
        twelveClausesOfFurnace();
        twelveClausesOfMinder();
        swirlZeroToNinetyNine();
        lateZeroToNine();
        givesZeroToMost();
        onceAtMostEach();
        fiveDigits();
        digitsAsFarAsTheyGo();
        lettersAsFarAsTheyGo();
        wordsOfEach();
        blanksAlone();
        tenDeep();
        tenDeepTogether();
        notDeeperBehindTheClosing();
        sixtyTogether();
        sixtyWithFacts();
        placesOfFaults();
        firstAlongTheText();
        towardsZero();
        roundIn64Bits();
        Due.done("TextBoundsTest");
    }

    private static int fault(int place, int kind) {
        return -2 - (1 + 8 * place + kind);
    }

    private static void furnace(String text, int due) {
        Due.is("furnace " + text, Due.furnace(new PulledCrystal(), text), due);
    }

    private static void minder(String text, int due) {
        Due.is("minder " + text, Due.minder(new PulledCrystal(), text), due);
    }

    // A POT of WIDE 500, HEAT 5 and 1000 grams.
    private static PulledCrystal pot(String furnace, String minder) {
        PulledCrystal x = Due.with(furnace, minder);
        x.begin(0, 0, 1000, 400, 5, 500, 0, 900, 0);
        return x;
    }

    private static void wider(String furnace, int due) {
        PulledCrystal x = pot(furnace, "pull 0");
        x.grow(1);
        Due.is("WIDE grows by " + furnace, x.count(2) - 500, due);
    }

    private static void heat(String minder, int due) {
        PulledCrystal x = pot("wide 0", minder);
        x.grow(1);
        Due.is("HEAT by " + minder, x.count(3), due);
    }

    private static void nothingIsShared() {
        PulledCrystal x = pot("wide 1", "pull 1");
        x.grow(3);
        x.thin(5);
        x.stuff(0, 1, 7);
        x.feed(1, 2, 3, 4, 5);
        x.image(0);
        PulledCrystal z = new PulledCrystal();
        Due.is("no POT", z.state(), 0);
        for (int what = 0; what < 13; what++) {
            Due.is("nothing there " + what, z.count(what), 0);
        }
        Due.is("no text", z.begin(0, 0, 1, 1, 0, 1, 0, 1, 0), false);
        Due.is("thin", z.thin(30), 30);
        Due.is("share", z.stuff(0, 1, 1000), 1000);
        Due.is("no IMAGE", z.back(0), -1);
        Due.is("the other has its own still", x.count(0), 3);
    }

    // "wide 1+22+333+4444+5" fills one call to its last byte.
    private static void twentyBytesInOrder() {
        PulledCrystal x = new PulledCrystal();
        Due.is("feed", x.feed(0x77696465, 0x20312b32, 0x322b3333, 0x332b3434, 0x34342b35), 20);
        Due.is("furnace", x.furnace(), 0);
        Due.minder(x, "pull 0");
        x.begin(0, 0, 1000, 400, 5, 500, 0, 900, 0);
        x.grow(1);
        Due.is("WIDE", x.count(2), 500 + 1 + 22 + 333 + 4444 + 5);
        // bytes from 128 on are none below 0, and none of them can stand anywhere
        int[] high = {0x80808080, 0xffffffff, 0xa0a0a0a0, 0xb1b1b1b1};
        for (int n : high) {
            x.feed(n, n, n, n, n);
            Due.is("a byte from 128 on", x.furnace(), fault(0, 0));
        }
    }

    private static void fourHundredBytes() {
        PulledCrystal x = new PulledCrystal();
        for (int n = 20; n <= 380; n += 20) {
            Due.is("feed", x.feed(0x20202020, 0x20202020, 0x20202020, 0x20202020, 0x20202020), n);
        }
        x.end(379);
        Due.is("feed to 399", x.feed(0, 0, 0, 0, 0), 399);
        x.end(380);
        Due.is("feed to 400", x.feed(0, 0, 0, 0, 0), 400);
        x.end(381);
        Due.is("feed to 401", x.feed(0, 0, 0, 0, 0), -1);
        Due.is("none comes", x.count(11), 381);
        Due.is("no part of it either", x.end(382), -1);
        x.end(380);
        Due.is("feed to 400 again", x.feed(0x77696465, 0, 0, 0, 0), 400);
        Due.is("feed a full one", x.feed(0, 0, 0, 0, 0), -1);
        Due.is("end 400", x.end(400), 400);
        Due.is("end 401", x.end(401), -1);
        Due.is("the first byte 0 stayed where it was", x.furnace(), fault(379, 0));
    }

    private static void fourHundredBytesOfText() {
        wider("wide" + " ".repeat(395) + "7", 7);
        wider("wide " + " ".repeat(389) + "1+7777", 7778);
        furnace("wide" + " ".repeat(396), fault(400, 0));
        furnace("wide 1" + " ".repeat(393) + ";", fault(400, 0));
        furnace("wide 1" + " ".repeat(393) + "+", fault(400, 0));
        furnace("wide 1" + " ".repeat(393) + "(", fault(399, 0));
        furnace("wide 1" + " ".repeat(394), 0);
        furnace(" ".repeat(400), fault(400, 0));
        furnace("9".repeat(400), fault(0, 0));
        furnace("w".repeat(400), fault(0, 0));
        furnace("wide " + "9".repeat(395), fault(5, 1));
        furnace("wide " + "s".repeat(395), fault(5, 0));
        heat("heat" + " ".repeat(394) + "88", 88);
        minder("pull 1 if " + "not ".repeat(97) + "1", fault(10 + 40, 2));
        minder("heat" + "(".repeat(396), fault(14, 2));
        minder("pull 1 if" + "[".repeat(391), fault(19, 2));
    }

    private static void firstBytesAlone() {
        PulledCrystal x = new PulledCrystal();
        Due.tape(x, "wide 123;rest");
        Due.is("end 13", x.end(13), 13);
        Due.is("end 14", x.end(14), -1);
        Due.is("end -1", x.end(-1), -1);
        Due.is("end 7", x.end(7), 7);
        Due.is("what is cut off is gone", x.end(8), -1);
        // the next comes behind the first seven: 12 and then 5
        x.feed(0x35202020, 0, 0, 0, 0);
        Due.is("end 11", x.end(11), 11);
        Due.is("furnace", x.furnace(), 0);
        Due.minder(x, "pull 0");
        x.begin(0, 0, 1000, 400, 5, 500, 0, 900, 0);
        x.grow(1);
        Due.is("WIDE", x.count(2), 500 + 125);
        Due.tape(x, "wide 1");
        Due.is("end 0", x.end(0), 0);
        Due.is("an empty TAPE", x.furnace(), fault(0, 0));
    }

    private static void furnacesZeroToThree() {
        PulledCrystal x = new PulledCrystal();
        Due.minder(x, "pull 0");
        for (int k = 0; k < 4; k++) {
            Due.is("furnace " + k + " isn't there yet", x.begin(k, 0, 9, 9, 0, 50, 0, 9, 0), false);
            Due.is("furnace", Due.furnace(x, "wide " + (k + 3)), k);
        }
        Due.is("a fifth, of a good text", Due.furnace(x, "wide 9"), -1);
        Due.is("the TAPE has it still, for a MINDER", x.minder(), fault(0, 0));
        Due.is("a fifth, of a faulty text", Due.furnace(x, "wide"), -1);
        Due.is("bytes", x.count(11), 4);
        x.end(0);
        Due.is("MINDERS come still", Due.minder(x, "pull 1"), 1);
        for (int k = 0; k < 4; k++) {
            Due.is("begin with furnace " + k, x.begin(k, 0, 9, 9, 0, 50, 0, 9, 0), true);
            x.grow(1);
            Due.is("its own law", x.count(2), 53 + k);
        }
        Due.is("no furnace 4", x.begin(4, 0, 9, 9, 0, 50, 0, 9, 0), false);
    }

    private static void mindersZeroToSeven() {
        PulledCrystal x = new PulledCrystal();
        Due.furnace(x, "wide 0");
        for (int k = 0; k < 8; k++) {
            Due.is("minder " + k + " isn't there yet", x.begin(0, k, 9, 9, 0, 50, 0, 9, 0), false);
            Due.is("minder", Due.minder(x, "pull " + (k + 3)), k);
        }
        Due.is("a ninth", Due.minder(x, "pull 9"), -1);
        Due.is("bytes", x.count(11), 6);
        x.end(0);
        Due.is("FURNACES come still", Due.furnace(x, "wide 1"), 1);
        for (int k = 0; k < 8; k++) {
            Due.is("begin with minder " + k, x.begin(0, k, 9, 9, 0, 50, 0, 9, 0), true);
            x.grow(1);
            Due.is("its own law", x.count(4), 3 + k);
        }
        Due.is("minds 7", x.minds(7), true);
        Due.is("minds 8", x.minds(8), false);
        Due.is("no minder 8", x.begin(0, 8, 9, 9, 0, 50, 0, 9, 0), false);
        Due.is("PULL of minder 7", x.tried(7, 1, 0, 2), 1);
        Due.is("tried 8", x.tried(8, 1, 0, 2), -1);
    }

    private static void twelveClausesOfFurnace() {
        wider("wide 1 if 1 > 2;".repeat(11) + "wide 5", 5);
        wider("wide 1 if 1 > 2;".repeat(11) + "swirl 9", -9);
        furnace("wide 1;".repeat(11) + "wide 5;", fault(84, 0));
        furnace("wide 1;".repeat(12) + "wide 5", fault(84, 4));
        furnace("wide 1;".repeat(12) + "swirl 5", fault(84, 4));
        furnace("wide 1;".repeat(12) + "  late 10", fault(86, 4));
        furnace("wide 1;".repeat(12) + "pull 5", fault(84, 0));
        furnace("wide 1;".repeat(12) + "9", fault(84, 0));
        furnace("swirl 1;late 1;gives 1;" + "wide 1;".repeat(9) + "wide 1", fault(86, 4));
        furnace("swirl 1;late 1;gives 1;" + "wide 1;".repeat(8) + "wide 1", 0);
    }

    private static void twelveClausesOfMinder() {
        heat("pull 1;".repeat(11) + "heat 7", 7);
        heat("pull 1;heat 9 if 1 > 2;".repeat(5) + "pull 2;heat 8", 8);
        minder("pull 1;heat 1;".repeat(6) + "heat 7", fault(84, 4));
        minder("pull 1;heat 1;".repeat(6) + " heat", fault(85, 4));
        minder("pull 1;heat 1;".repeat(6) + " wide 1", fault(85, 0));
        minder("pull 1;heat 1;".repeat(6), fault(84, 0));
    }

    private static void swirlZeroToNinetyNine() {
        // the first x is 12345, which by 65536 is 0: so much less swirl
        wider("swirl 0", 0);
        wider("swirl 1", -1);
        wider("swirl 98", -98);
        wider("swirl 99", -99);
        furnace("swirl 100", fault(6, 1));
        furnace("swirl 00099", 0);
        furnace("swirl 00100", fault(6, 1));
        furnace("swirl 0-1", fault(7, 0));
        furnace("swirl -1", fault(6, 0));
    }

    private static void lateZeroToNine() {
        for (int late = 0; late < 10; late++) {
            PulledCrystal x = pot("wide 10;late " + late, "heat seen");
            x.grow(12);
            for (int row = 0; row < 12; row++) {
                Due.is("seen " + late + " late in MINUTE " + row, x.row(row, 1), row > late ? 500 + 10 * (row - late) : 500);
            }
            Due.is("was", x.tried(0, 1, 0, 4), 630);
        }
        furnace("late 10", fault(5, 1));
        furnace("late 00009", 0);
        furnace("late 00010", fault(5, 1));
        furnace("late seen", fault(5, 0));
    }

    private static void givesZeroToMost() {
        for (int gives : new int[] {0, 1, 9998, 9999}) {
            PulledCrystal x = pot("gives " + gives, "pull 0");
            x.grow(1);
            Due.is("in the melt", x.much(5, -1), gives);
            x.grow(599);
            Due.is("in the melt behind 600 MINUTES", x.much(5, -1), 600L * gives);
        }
        furnace("gives 10000", fault(6, 1));
        furnace("gives 09999", 0);
        furnace("gives 99999", fault(6, 1));
        furnace("gives 009999", fault(6, 1));
    }

    private static void onceAtMostEach() {
        furnace("swirl 1;late 2;gives 3", 0);
        furnace("swirl 1;late 2;gives 3;swirl 1", fault(23, 4));
        furnace("swirl 1;late 2;gives 3; late 2", fault(24, 4));
        furnace("swirl 1;late 2;gives 3;gives", fault(23, 4));
        furnace("swirl 0;swirl 0", fault(8, 4));
        furnace("late 0;wide 1;late 0", fault(14, 4));
        furnace("gives 0;gives 0", fault(8, 4));
        furnace("gives 0;given 0", fault(8, 0));
        furnace("wide 1;wide 1", 0);
        minder("pull 1;heat 1;pull 1;heat 1", 0);
    }

    private static void fiveDigits() {
        wider("wide 1", 1);
        wider("wide 99999 - 99998", 1);
        wider("wide 00002", 2);
        furnace("wide 100000", fault(5, 1));
        furnace("wide 000002", fault(5, 1));
        furnace("wide 1 if 99999 > 1", 0);
        furnace("wide 1 if 199999 > 1", fault(10, 1));
        furnace("wide 1 if 1 > 999999", fault(14, 1));
        furnace("wide 4294967297", fault(5, 1));
        minder("heat (100000)", fault(6, 1));
    }

    private static void digitsAsFarAsTheyGo() {
        wider("wide 12if 1<2", 12);
        wider("wide 3;swirl 0", 3);
        furnace("wide 1 2", fault(7, 0));
        furnace("wide 1234 5", fault(10, 0));
        furnace("wide 12a", fault(7, 0));
        furnace("wide 12seen", fault(7, 0));
        furnace("wide 123456a", fault(5, 1));
    }

    private static void lettersAsFarAsTheyGo() {
        wider("wide12", 12);
        wider("wide 7 if1<2and 1<2", 7);
        wider("wide(7)if[not[1<0]]", 7);
        furnace("wide want2", fault(9, 0));
        furnace("wide wants", fault(5, 0));
        furnace("wide wan", fault(5, 0));
        furnace("wide seenwas", fault(5, 0));
        furnace("widewant", fault(0, 0));
        furnace("wide 1 ifwant > 1", fault(7, 0));
        furnace("wide 1 if notwant > 1", fault(10, 0));
        furnace("wide 1 if want > 1 orwant > 1", fault(19, 0));
        furnace("wide 1 if want > 1 andwant > 1", fault(19, 0));
        furnace("wide 1 if want > 1 or1 > 1", 0);
        furnace("wideA 1", fault(4, 0));
        furnace("wide wantA", fault(9, 0));
        furnace("wide want`", fault(9, 0));
        furnace("wide want{", fault(9, 0));
    }

    private static void wordsOfEach() {
        String[] both = {"minute", "seen", "was", "want", "heat", "pull", "left", "long"};
        for (String word : both) {
            furnace("wide " + word, 0);
            furnace("wide 1 if " + word + " = " + word, 0);
            minder("pull " + word, 0);
            minder("heat 1 if " + word + " = " + word, 0);
        }
        furnace("wide wide", 0);
        furnace("wide 1 if wide = wide", 0);
        minder("pull wide", fault(5, 0));
        minder("heat 1 if wide = 1", fault(10, 0));
        minder("heat 1 if 1 = wide", fault(14, 0));
        for (String word : new String[] {"swirl", "late", "gives", "if", "not", "or", "and", "a"}) {
            furnace("wide " + word, fault(5, 0));
            minder("pull " + word, fault(5, 0));
        }
        furnace("heat 1", fault(0, 0));
        minder("late 1", fault(0, 0));
        minder("gives 1", fault(0, 0));
    }

    private static void blanksAlone() {
        wider("   wide   7   if   1   <=   1   and   [   not   1   >=   2   ]   ;   swirl   0   ", 7);
        wider("wide7if1<=1and[not1>=2];swirl0", 7);
        for (int sign : new int[] {0, 9, 10, 13, 31, 33, 127, 128, 160, 255}) {
            furnace("wide" + (char) sign + "7", fault(4, 0));
            furnace("wide 7" + (char) sign, fault(6, 0));
            furnace((char) sign + "wide 7", fault(0, 0));
        }
        furnace("wide 1 if 1 < = 1", fault(14, 0));
        furnace("wide 1 if 1 > = 1", fault(14, 0));
        furnace("wi de 1", fault(0, 0));
        furnace("wide 1 2", fault(7, 0));
    }

    private static void tenDeep() {
        heat("heat " + "(".repeat(10) + "7" + ")".repeat(10), 7);
        minder("heat " + "(".repeat(11) + "7" + ")".repeat(11), fault(15, 2));
        heat("heat 7 if " + "[".repeat(10) + "1=1" + "]".repeat(10), 7);
        minder("heat 7 if " + "[".repeat(11) + "1=1" + "]".repeat(11), fault(20, 2));
        heat("heat 7 if " + "not ".repeat(10) + "1=1", 7);
        heat("heat 7 if " + "not ".repeat(9) + "1=1;heat 8", 8);
        minder("heat 7 if " + "not ".repeat(11) + "1=1", fault(50, 2));
        heat("heat 7 if " + "(".repeat(10) + "1" + ")".repeat(10) + "=1", 7);
        minder("heat 7 if " + "(".repeat(11) + "1" + ")".repeat(11) + "=1", fault(20, 2));
        heat("heat 7 if 1=" + "(".repeat(10) + "1" + ")".repeat(10), 7);
        minder("heat 7 if 1=" + "(".repeat(11) + "1" + ")".repeat(11), fault(22, 2));
        // deeper than the sign that opens it is nothing looked at
        minder("heat " + "(".repeat(11) + "123456", fault(15, 2));
    }

    private static void tenDeepTogether() {
        String six = "not[not[not[";
        heat("heat 7 if " + six + "((((1))))=1]]];heat 8", 8);
        minder("heat 7 if " + six + "(((((1)))))=1]]]", fault(26, 2));
        heat("heat 7 if " + six + "1=((((1))))]]];heat 8", 8);
        minder("heat 7 if " + six + "1=(((((1)))))]]]", fault(28, 2));
        heat("heat 7 if " + six + "not[not[1=1]]]]];heat 8", 8);
        minder("heat 7 if " + six + "not[not[(1)=1]]]]]", fault(30, 2));
        minder("heat 7 if " + six + "not[not[[1=1]]]]]]", fault(30, 2));
        minder("heat 7 if " + six + "not[not[not 1=1]]]]]", fault(30, 2));
    }

    private static void notDeeperBehindTheClosing() {
        heat("heat (((((((((1)))))))))" + "+((((((((((1))))))))))".repeat(3), 4);
        heat("heat 7 if [[[[[[[[[[1=1]]]]]]]]]]" + " and not not not not not not not not not not 1=1".repeat(3), 7);
        heat("heat ((((((((((1))))))))));pull ((((((((((1))))))))))if not[(((((((1)))))))=1]", 1);
        heat("heat 7 if " + "not 1=2 and ".repeat(12) + "1=1", 7);
        minder("heat (((((((((1)))))))))" + "+(((((((((((1)))))))))))", fault(24 + 11, 2));
    }

    private static void sixtyTogether() {
        heat("heat " + FIFTY_NINE + "+1", 60);
        minder("heat " + FIFTY_NINE + "+1+1", fault(5 + 120, 3));
        heat("heat " + FIFTY_NINE + "+want", 459);
        minder("heat " + FIFTY_NINE + "+1+want", fault(5 + 120, 3));
        minder("heat " + FIFTY_NINE + "+1+(want)", fault(5 + 121, 3));
        heat("heat ((" + FIFTY_NINE + ")+((1)))", 60);
        wider("late 3;swirl 0;gives 4;wide " + FIFTY_NINE + "+1", 60);
        furnace("late 3;swirl 0;gives 4;wide " + FIFTY_NINE + "+1;wide 1", fault(27 + 1 + 119 + 1 + 5, 3));
        minder("heat " + FIFTY_NINE + ";pull 1", 0);
        minder("heat " + FIFTY_NINE + ";pull 1+1", fault(5 + 117 + 8, 3));
        minder("heat " + FIFTY_NINE + "+1;pull 1", fault(5 + 119 + 6, 3));
    }

    // Each FACT of a SIGN is one of the 60; [ ], not, and and or are none.
    private static void sixtyWithFacts() {
        String many = "heat 1" + "+1".repeat(56);
        heat(many + " if 1<=1", 57);
        heat(many + " if not[not[1<=1]]", 57);
        minder(many + " if 1<=1 or 1<=1", fault(130, 3));
        minder(many + "+1 if 1<=1", fault(127, 3));
        minder(many + "+1 if 11<=1", fault(128, 3));
        minder(many + "+1+1 if 11<=1", fault(128, 3));
        minder(many + "+1+1+1 if 11<=1", fault(128, 3));
        heat("heat 50+7*1 if " + "1<2 and ".repeat(18) + "1<2", 57);
        minder("heat 50+7*1 if " + "1<2 and ".repeat(19) + "1<2", fault(15 + 19 * 8, 3));
        heat("heat 50+7*1 if " + "1<2 or ".repeat(18) + "not 1<2", 57);
    }

    private static void placesOfFaults() {
        furnace("", fault(0, 0));
        furnace("   ", fault(3, 0));
        furnace("wide", fault(4, 0));
        furnace("wide 1;", fault(7, 0));
        furnace("wide 1 ;  ", fault(10, 0));
        furnace("wide seam", fault(5, 0));
        furnace("wide  ?", fault(6, 0));
        furnace("wide   123456", fault(7, 1));
        furnace("wide 1;swirl   100", fault(15, 1));
        furnace("wide (  (((((((((  (1", fault(19, 2));
        minder("heat 1 if not not not not not not not not not not   not 1=1", fault(52, 2));
        minder("heat " + FIFTY_NINE + "+1+   want", fault(128, 3));
        minder("heat 1" + "+1".repeat(57) + "if 1   <=   1", fault(132, 3));
        minder("heat 1" + "+1".repeat(58) + "if 1   <=   1", fault(129, 3));
        furnace("wide 1;".repeat(12) + "   wide", fault(87, 4));
    }

    private static void firstAlongTheText() {
        furnace("wide 100000 + + 1", fault(5, 1));
        furnace("wide + 100000", fault(5, 0));
        furnace("wide ( 1 ; swirl 100", fault(9, 0));
        furnace("swirl 100;swirl 1", fault(6, 1));
        furnace("swirl 1;swirl 100", fault(8, 4));
        furnace("wide 1;;wide 100000", fault(7, 0));
        furnace("wide 1 if 1 = 1 = 100000", fault(16, 0));
        furnace("wide 1 if 1 = 100000 = 1", fault(14, 1));
        minder("heat " + FIFTY_NINE + "+1+123456", fault(125, 1));
        minder("heat " + FIFTY_NINE + "+1+wide", fault(125, 0));
        minder("heat " + FIFTY_NINE + "+1+((((((((((1))))))))))", fault(135, 3));
        minder("heat " + FIFTY_NINE + "+1+(((((((((((1)))))))))))", fault(135, 2));
        minder("heat " + FIFTY_NINE + "+1 if", fault(127, 0));
        minder("heat " + FIFTY_NINE + "+1 if 123456 = 1", fault(128, 1));
        minder("heat " + FIFTY_NINE + " if 1 1", fault(128, 0));
    }

    private static void towardsZero() {
        heat("heat 100 + 7 / 2", 103);
        heat("heat 100 + (0-7) / 2", 97);
        heat("heat 100 + 7 / (0-2)", 97);
        heat("heat 100 + (0-7) / (0-2)", 103);
        heat("heat 100 + 1 / 2", 100);
        heat("heat 100 + (0-1) / 2", 100);
        heat("heat 100 + 7 / 0", 100);
        heat("heat 100 + 0 / 0", 100);
        heat("heat 100 + (0-7) / 0", 100);
        heat("heat 100 + 7 / (want - 400)", 100);
        wider("wide 9 / (wide - 500) + 3", 3);
    }

    // least: 2 to the power of 63, which goes round to the least of all numbers.
    private static void roundIn64Bits() {
        String least = "65536*65536*65536*32768";
        heat("heat " + least, 0);
        heat("heat " + least + "-1", 999);
        heat("heat " + least + "-1+1", 0);
        heat("heat 0-" + least, 0);
        heat("heat (" + least + "-1)*2+5", 3);
        heat("heat " + least + "*2+5", 5);
        heat("heat " + least + "+" + least + "+5", 5);
        heat("heat " + least + "/(0-1)", 0);
        heat("heat " + least + "/(0-1)-1", 999);
        heat("heat 65536*65536*65536*65536+8", 8);
        heat("heat 65536*65536*65536*65535/65536/65536/65536+70000", 999);
        heat("heat 65536*65536*65536*65535/65536/65536/65536+8", 7);
        heat("heat 7 if " + least + "<0;heat 8", 7);
        heat("heat 7 if " + least + "-1>0;heat 8", 7);
        heat("heat 7 if " + least + "<" + least + "-1;heat 8", 7);
        wider("wide " + least + "-1", 9499);
        wider("wide " + least, -500);
        wider("wide 65536*65536*65536*65536+3", 3);
        wider("wide 1 if " + least + "*2=0;wide 2", 1);
    }
}
