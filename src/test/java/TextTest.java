// Promises 4 and 5: furnace, minder, and the FAULTS of their texts.
public final class TextTest {
    private static final String SIXTY = "1+1+1+1+1+1+1+1+1+1+1+1+1+1+1+1+1+1+1+1+1+1+1+1+1+1+1+1+1+1"
            + "+1+1+1+1+1+1+1+1+1+1+1+1+1+1+1+1+1+1+1+1+1+1+1+1+1+1+1+1+1+1";

    public static void main(String[] args) {
        numbers();
        goodTexts();
        outOfPlace();
        badNumbers();
        tooDeep();
        tooMany();
        clauses();
        leastOfOnePlace();
        Due.done("TextTest");
    }

    private static void numbers() {
        PulledCrystal x = new PulledCrystal();
        for (int k = 0; k < 4; k++) {
            Due.is("furnace", Due.furnace(x, "wide " + k), k);
            Due.is("FURNACES", x.count(7), k + 1);
            Due.is("the TAPE is empty then", x.count(11), 0);
        }
        Due.tape(x, "wide 9");
        Due.is("a fifth furnace", x.furnace(), -1);
        Due.is("nothing happens to the TAPE", x.count(11), 6);
        Due.is("FURNACES", x.count(7), 4);
        x.end(0);
        Due.is("an empty fifth furnace", x.furnace(), -1);
        for (int k = 0; k < 8; k++) {
            Due.is("minder", Due.minder(x, "pull " + k), k);
            Due.is("MINDERS", x.count(8), k + 1);
        }
        Due.tape(x, "no text");
        Due.is("a ninth minder", x.minder(), -1);
        Due.is("nothing happens to the TAPE", x.count(11), 7);
        faultyText();
    }

    private static void faultyText() {
        PulledCrystal x = new PulledCrystal();
        Due.is("faulty furnace", Due.furnace(x, "wide"), -2 - (1 + 8 * 4));
        Due.is("the TAPE is empty then", x.count(11), 0);
        Due.is("FURNACES", x.count(7), 0);
        Due.is("faulty minder", Due.minder(x, "pull"), -2 - (1 + 8 * 4));
        Due.is("the TAPE is empty then", x.count(11), 0);
        Due.is("MINDERS", x.count(8), 0);
        Due.is("an empty TAPE", x.furnace(), -3);
        Due.is("an empty TAPE", x.minder(), -3);
        Due.is("a MINDER's text as a FURNACE", Due.furnace(x, "pull 1"), -3);
        Due.is("a FURNACE's text as a MINDER", Due.minder(x, "wide 1"), -3);
        Due.is("swirl as a MINDER", Due.minder(x, "swirl 1"), -3);
        Due.is("furnace behind a fault", Due.furnace(x, "wide 1"), 0);
        Due.is("minder behind a fault", Due.minder(x, "pull 1"), 0);
        nothingStaysOfOthers();
    }

    // Neither of a text with a FAULT nor of a good one is there anything in the next.
    private static void nothingStaysOfOthers() {
        PulledCrystal x = new PulledCrystal();
        for (int k = 0; k < 30; k++) {
            Due.is("faulty", Due.furnace(x, "swirl 9;late 8;gives 7;wide " + SIXTY + ";"), -2 - (1 + 8 * 148));
        }
        Due.is("as many VALUES again", Due.furnace(x, "late 1;wide " + SIXTY), 0);
        Due.is("first numbers", Due.furnace(x, "gives 1;late 1;swirl 1"), 1);
        Due.is("no numbers", Due.furnace(x, "wide minute"), 2);
        Due.minder(x, "heat seen;pull 10");
        x.begin(2, 0, 99999, 70, 5, 500, 0, 900, 0);
        x.grow(3);
        Due.is("no swirl", x.row(2, 0), 503);
        Due.is("not late", x.row(2, 1), 501);
        Due.is("nothing given", x.much(5, -1), 0);
        noClauseStays();
    }

    // A shorter text has none of the CLAUSES of a longer one ahead of it.
    private static void noClauseStays() {
        PulledCrystal x = new PulledCrystal();
        Due.is("longer", Due.minder(x, "pull 1 if 1 > 2;pull 9;heat 9"), 0);
        Due.is("shorter", Due.minder(x, "pull 1 if 1 > 2"), 1);
        Due.is("longer", Due.furnace(x, "wide 1 if 1 > 2;wide 9"), 0);
        Due.is("shorter", Due.furnace(x, "wide 1 if 1 > 2"), 1);
        x.begin(1, 1, 99999, 70, 5, 500, 0, 900, 0);
        x.grow(1);
        Due.is("no wide", x.row(0, 0), 500);
        Due.is("no heat", x.row(0, 1), 5);
        Due.is("no pull", x.row(0, 2), 0);
    }

    private static void good(String text) {
        PulledCrystal x = new PulledCrystal();
        boolean furnace = text.trim().matches("(?s)(wide|swirl|late|gives).*");
        Due.is("good: " + text, furnace ? Due.furnace(x, text) : Due.minder(x, text), 0);
    }

    private static void bad(String text, int place, int kind) {
        PulledCrystal x = new PulledCrystal();
        boolean furnace = text.trim().matches("(?s)(wide|swirl|late|gives).*");
        Due.is("bad: " + text, furnace ? Due.furnace(x, text) : Due.minder(x, text), -2 - (1 + 8 * place + kind));
    }

    private static void goodTexts() {
        good("wide1;swirl99;late9;gives9999");
        good(" wide 1 ; swirl 0 ; late 0 ; gives 0 ");
        good("wide 00000 if minute<1 or seen<=1 and was=1 or want>=1 and heat>1");
        good("wide pull-left+long*wide/(((7)))");
        good("pull 99999;pull heat;heat pull if not[not not 1=1and not[2=2]]or 3=3");
        good("pull 1if 1=1");
        good("pull(1)if[1=1]");
        good("pull 1 if (1) = (1) and not (2 + 1) * 2 < 7");
        good("gives 00007;late 00009;swirl 00099");
        good("swirl 1");
        good("heat 1");
        good("pull 1;pull 1;pull 1;heat 1;heat 1");
    }

    private static void outOfPlace() {
        bad("wide  ", 6, 0);
        bad("wide 1;", 7, 0);
        bad("wide 1;  ", 9, 0);
        bad(";wide 1", 0, 0);
        bad("wide 1 wide 2", 7, 0);
        bad("wides 1", 0, 0);
        bad("wide 1 2", 7, 0);
        bad("wide -1", 5, 0);
        bad("wide 1 + + 1", 9, 0);
        bad("wide 1 +", 8, 0);
        bad("wide (1", 7, 0);
        bad("wide (1]", 7, 0);
        bad("wide 1)", 6, 0);
        bad("wide ()", 6, 0);
        bad("wide [1]", 5, 0);
        bad("wide 1 if", 9, 0);
        bad("wide 1 if wide", 14, 0);
        bad("wide 1 if wide)", 14, 0);
        bad("wide 1 if 1 = 1 = 1", 16, 0);
        bad("wide 1 if 1 < = 1", 14, 0);
        bad("wide 1 if 1 => 1", 13, 0);
        bad("wide 1 if 1 <> 1", 13, 0);
        bad("wide 1 if [1 = 1", 16, 0);
        bad("wide 1 if [1 = 1)", 16, 0);
        bad("wide 1 if (1 = 1)", 13, 0);
        bad("wide 1 if 1 = 1 or", 18, 0);
        bad("wide 1 if 1 = 1 xor 1 = 1", 16, 0);
        bad("wide 1 if not", 13, 0);
        bad("wide 1 iff 1 = 1", 7, 0);
        bad("wide width", 5, 0);
        bad("wide teen", 5, 0);
        bad("wide seenz", 5, 0);
        bad("wide see", 5, 0);
        bad("mull 1", 0, 0);
        bad("wide 1 of 1 = 1", 7, 0);
        bad("pull want z", 10, 0);
        bad("wide swirl", 5, 0);
        bad("wide not 1", 5, 0);
        bad("wide 1.5", 6, 0);
        bad("wide 1\t", 6, 0);
        bad("wide 1\u0000", 6, 0);
        bad("wide 1\u00ff", 6, 0);
        bad("wide Seen", 5, 0);
        bad("wide sEen", 5, 0);
        bad("wide 1 if minute2 = 1", 16, 0);
        bad("swirl", 5, 0);
        bad("swirl seen", 6, 0);
        bad("swirl (1)", 6, 0);
        bad("swirl 1 if 1 = 1", 8, 0);
        bad("late 1 + 1", 7, 0);
        bad("pull wide", 5, 0);
        bad("pull 1 if wide = 1", 10, 0);
        bad("pull 1; swirl 1", 8, 0);
    }

    private static void badNumbers() {
        bad("wide 100000", 5, 1);
        bad("wide 000001", 5, 1);
        bad("wide 1 + 123456789012345678901234567890", 9, 1);
        bad("pull 1 if 1 = 100000", 14, 1);
        bad("swirl 100", 6, 1);
        bad("swirl 000099", 6, 1);
        bad("late 10", 5, 1);
        bad("gives 10000", 6, 1);
        bad("gives   99999", 8, 1);
    }

    private static void tooDeep() {
        good("pull " + "(".repeat(10) + "1" + ")".repeat(10));
        bad("pull " + "(".repeat(11) + "1" + ")".repeat(11), 15, 2);
        good("pull 1 if " + "[".repeat(10) + "1=1" + "]".repeat(10));
        bad("pull 1 if " + "[".repeat(11) + "1=1" + "]".repeat(11), 20, 2);
        good("pull 1 if " + "not ".repeat(10) + "1=1");
        bad("pull 1 if " + "not ".repeat(11) + "1=1", 50, 2);
        good("pull 1 if " + "not [ not [ not [ ((((1)))) = 1 ] ] ]");
        bad("pull 1 if " + "not [ not [ not [ not (((1))) = (((( 1 )))) ] ] ]", 45, 2);
        bad("pull 1 if " + "not [ not [ not [ not [ not [ [1=1] ] ] ] ] ]", 40, 2);
        bad("pull 1 if " + "not [ not [ not [ not [ not [ not 1=1 ] ] ] ] ]", 40, 2);
        good("pull 1 if " + "[1=1] and not (1)=1 and ".repeat(9) + "1=1");
    }

    private static void tooMany() {
        good("wide " + SIXTY);
        bad("wide " + SIXTY + "+1", 125, 3);
        bad("wide " + SIXTY + ";wide 7", 130, 3);
        good("wide " + SIXTY + ";swirl 7;late 7;gives 7");
        good("wide ((((" + SIXTY + "))))");
        bad("wide " + SIXTY + " + seen", 127, 3);
        bad("wide 1+" + SIXTY.substring(0, 115) + " if 1 = 1", 128, 3);
        bad("wide " + SIXTY.substring(0, 115) + " if 1 = 1", 128, 3);
        bad("wide " + SIXTY.substring(0, 117) + " if 1 >= 1", 128, 3);
        good("wide " + SIXTY.substring(0, 113) + " if 1 = 1");
        good("wide " + SIXTY.substring(0, 111) + " if not [1 = 1] ");
        bad("wide " + SIXTY.substring(0, 109) + " if not [1 = 1] and 1 >= 2", 139, 3);
    }

    private static void clauses() {
        good("wide 1" + ";wide 1".repeat(11));
        bad("wide 1" + ";wide 1".repeat(12), 84, 4);
        bad("wide 1" + "; wide 1".repeat(12), 6 + 8 * 11 + 2, 4);
        bad("pull 1" + ";pull 1".repeat(12), 84, 4);
        good("wide 1" + ";wide 1".repeat(8) + ";swirl 1;late 1;gives 1");
        bad("wide 1" + ";wide 1".repeat(9) + ";swirl 1;late 1;gives 1", 70 + 8 + 7, 4);
        bad("swirl 1;swirl 1", 8, 4);
        bad("late 0; late 0", 8, 4);
        bad("gives 0;wide 1;gives 1", 15, 4);
        bad("swirl 1;late 1;gives 1;late 1", 23, 4);
    }

    private static void leastOfOnePlace() {
        bad("wide 1" + ";wide 1".repeat(11) + ";", 84, 0);
        bad("wide 1" + ";wide 1".repeat(11) + ";wides", 84, 0);
        bad("pull 1" + ";pull 1".repeat(11) + ";wide 1", 84, 0);
        bad("swirl 1;swirl x", 8, 4);
        bad("swirl 1;swirls", 8, 0);
        bad("wide 1 123456", 7, 0);
        bad("wide " + SIXTY + "+123456", 125, 1);
        bad("wide " + SIXTY + "+seem", 125, 0);
        bad("wide " + SIXTY + "+", 125, 0);
        bad("pull " + SIXTY + "+wide", 125, 0);
        bad("wide ((((((((((+", 15, 0);
    }
}
