// One crystal that is pulled out of a pot by a minder's law in a furnace, and what can be cut out of it.
public final class PulledCrystal {
    public static final int NONE = -1;

    private static final int NO_SUCH = -2;
    private static final int FURNACES = 4;
    private static final int MINDERS = 8;
    private static final int IMAGES = 4;
    private static final int WANTS = 8;
    private static final int SLICES = 100;
    private static final int RINGS = 200;
    private static final int STUFFS = 6;
    private static final int GIVEN_STUFF = 5;
    private static final int ROWS = 600;
    private static final int TRY_MINUTES = 300;
    private static final int MOST_WIDE = 9999;
    private static final int MOST_PARTS = 1000000000;
    private static final int MOST_SHARE = 2000;
    private static final int MOST_PUT = 999999999;
    private static final long MILLION = 1000000L;
    // Far above all parts in a million that there can be.
    private static final long NO_LIMIT = 1000000000000000000L;

    // How a POT is.
    private static final int NO_POT = 0;
    private static final int GROWS = 1;
    private static final int NOTHING_LEFT = 2;
    private static final int TORN_OFF = 3;
    private static final int ALL_ROWS = 4;
    private static final int LIFE_OVER = 5;

    // What a ROW is.
    private static final int NECK = 0;
    private static final int SHOULDER = 1;
    private static final int BODY = 2;
    private static final int TAIL = 3;

    // The limits and the faults of a text.
    private static final int TAPE_BYTES = 400;
    private static final int END = -1;
    private static final int CLAUSES = 12;
    private static final int DEEPEST = 10;
    private static final int MOST_TOLD = 60;
    private static final int MOST_DIGITS = 5;
    private static final int MOST_NUMBER = 99999;
    private static final int OUT_OF_PLACE = 0;
    private static final int BAD_NUMBER = 1;
    private static final int TOO_DEEP = 2;
    private static final int TOO_MANY_TOLD = 3;
    private static final int CLAUSE_TOO_MANY = 4;

    // The kinds of CLAUSES.
    private static final int SET_WIDE = 0;
    private static final int SET_PULL = 1;
    private static final int SET_HEAT = 2;
    private static final int SWIRL = 3;
    private static final int LATE = 4;
    private static final int GIVES = 5;

    // The WORDS that a text may use as VALUES.
    private static final int MINUTE = 0;
    private static final int SEEN = 1;
    private static final int WAS = 2;
    private static final int WANT = 3;
    private static final int HEAT = 4;
    private static final int PULL = 5;
    private static final int LEFT = 6;
    private static final int LONG = 7;
    private static final int WIDE = 8;
    private static final int WORDS = 9;

    // A law's code: a number from 0 on stands for itself, -1 - w for the WORD w, the rest are these.
    private static final int PLUS = -11;
    private static final int MINUS = -12;
    private static final int TIMES = -13;
    private static final int BY = -14;
    private static final int LESS = -15;
    private static final int AT_MOST = -16;
    private static final int SAME = -17;
    private static final int AT_LEAST = -18;
    private static final int MORE = -19;
    private static final int NOT = -20;
    private static final int AND = -21;
    private static final int OR = -22;

    private final Reader reader = new Reader();
    private final Tape tape = reader.tape();
    private final Laws furnaces = new Laws(FURNACES);
    private final Laws minders = new Laws(MINDERS);
    private final Desk desk = new Desk();
    private final int[] put = new int[STUFFS];
    private final int[] share = new int[STUFFS];
    private int thin = 30;
    private final Pot pot = new Pot();
    private final Pot trial = new Pot();
    private final Image[] images = new Image[IMAGES];
    private final Want[] wants = new Want[WANTS];
    private int wantCount = 0;
    private final Cutter cutter = new Cutter();
    private final Slices slices = new Slices();
    private final long[] replayed = new long[ROWS];
    private final int[] ringRows = new int[RINGS];
    private final int[] ringSeen = new int[RINGS];
    private int rings = 0;

    public PulledCrystal() {
        for (int stuff = 0; stuff < STUFFS; stuff++) {
            share[stuff] = 1000;
        }
        for (int k = 0; k < IMAGES; k++) {
            images[k] = new Image();
        }
        for (int k = 0; k < WANTS; k++) {
            wants[k] = new Want();
        }
    }

    public int feed(int a, int b, int c, int d, int e) {
        if (tape.size() + 20 > TAPE_BYTES) {
            return NONE;
        }
        tape.add(a);
        tape.add(b);
        tape.add(c);
        tape.add(d);
        tape.add(e);
        return tape.size();
    }

    public int end(int n) {
        if (n < 0 || n > tape.size()) {
            return NONE;
        }
        tape.shorten(n);
        return n;
    }

    public int furnace() {
        return reader.readInto(furnaces, true);
    }

    public int minder() {
        return reader.readInto(minders, false);
    }

    public int stuff(int stuff, int what, int n) {
        if (!isStuff(stuff)) {
            return NONE;
        }
        if (what == 0 && isWithin(n, 0, MOST_PUT)) {
            return replace(put, stuff, n);
        }
        if (what == 1 && isWithin(n, 0, MOST_SHARE)) {
            return replace(share, stuff, n);
        }
        return NONE;
    }

    public boolean begin(int furnace, int minder, int grams, int want, int heat, int wide, int seed, int life, int faults) {
        Law furnaceLaw = furnaces.find(furnace);
        Law minderLaw = minders.find(minder);
        if (furnaceLaw == null || minderLaw == null || seed < 0) {
            return false;
        }
        if (!isWithin(grams, 1, 99999) || !isWithin(want, 1, MOST_WIDE) || !isWithin(heat, 0, 999)) {
            return false;
        }
        if (!isWithin(wide, 1, MOST_WIDE) || !isWithin(life, 1, 900) || !isWithin(faults, 0, 999)) {
            return false;
        }
        Start start = pot.start();
        start.tell(grams, want, heat, wide, life, faults);
        start.tellStuffs(put, share);
        pot.open(furnaceLaw, minderLaw, seed);
        return true;
    }

    public boolean minds(int minder) {
        Law law = minders.find(minder);
        if (law == null || pot.how() == NO_POT) {
            return false;
        }
        pot.follow(law);
        return true;
    }

    public int grow(int n) {
        if (pot.how() == NO_POT || !isWithin(n, 0, ROWS)) {
            return NONE;
        }
        return pot.goOn(n, desk);
    }

    public int state() {
        return pot.how();
    }

    public int count(int what) {
        switch (what) {
            case 0: return pot.rows();
            case 1: return pot.left();
            case 2: return pot.wide();
            case 3: return pot.heat();
            case 4: return pot.pull();
            case 5: return pot.length();
            case 6: return pot.minutes();
            case 7: return furnaces.size();
            case 8: return minders.size();
            case 9: return wantCount;
            case 10: return slices.size();
            case 11: return tape.size();
            case 12: return rings;
            default: return NONE;
        }
    }

    public int row(int row, int what) {
        if (!pot.hasRow(row)) {
            return NONE;
        }
        switch (what) {
            case 0: return pot.wideOf(row);
            case 1: return pot.heatOf(row);
            case 2: return pot.pullOf(row);
            case 3: return pot.grownOf(row);
            case 4: return pot.kindOf(row, thin);
            case 5: return row >= pot.firstClean(thin) ? 1 : 0;
            case 6: return row >= pot.firstFaulted() ? 1 : 0;
            default: return NONE;
        }
    }

    public long much(int stuff, int row) {
        if (!isStuff(stuff)) {
            return NONE;
        }
        if (row == NONE) {
            return pot.meltOf(stuff);
        }
        return pot.hasRow(row) ? pot.wentInto(stuff, row) : NONE;
    }

    public long parts(int stuff, int row) {
        return isStuff(stuff) && pot.hasRow(row) ? pot.partsOf(stuff, row) : NONE;
    }

    public int melt(int row) {
        return pot.hasRow(row) ? pot.meltBack(row) : NONE;
    }

    public boolean fault(int row) {
        return pot.tellFault(row);
    }

    public int thin(int n) {
        if (!isWithin(n, 1, MOST_WIDE)) {
            return NONE;
        }
        int before = thin;
        thin = n;
        return before;
    }

    public int faults() {
        return pot.how() == NO_POT ? NONE : pot.faultsLeft(thin);
    }

    public int holds() {
        return pot.how() == NO_POT ? NONE : pot.tearsAt(thin);
    }

    public int want(int stuff, int low, int high, int wide, int length, int coins) {
        if (wantCount >= WANTS || !isStuff(stuff) || !isSpan(low, high)) {
            return NONE;
        }
        if (!isWithin(wide, 0, MOST_WIDE) || !isWithin(length, 1, 9999) || !isWithin(coins, 1, 999)) {
            return NONE;
        }
        wants[wantCount].tell(stuff, low, high, wide, length, coins);
        wantCount++;
        return wantCount - 1;
    }

    public int cut() {
        return mostCoins(pot);
    }

    public int whose(int row) {
        if (!pot.hasRow(row)) {
            return NO_SUCH;
        }
        cutter.lay(pot, thin, wants, wantCount);
        return cutter.wantOfRow(row);
    }

    public int enough(int stuff, int step, int low, int high, int what) {
        if (pot.how() == NO_POT || !isStuff(stuff) || !isWithin(step, 1, 9999999) || !isSpan(low, high)) {
            return NONE;
        }
        if (what != 0 && what != 1) {
            return NONE;
        }
        int most = -1;
        int bestTimes = 0;
        for (int k = 0; k <= 60; k++) {
            pot.replay(stuff, (long) k * step, pot.start().shareOf(stuff), replayed);
            int fit = countBetween(replayed, pot.rows(), low, high);
            if (fit > most) {
                most = fit;
                bestTimes = k;
            }
        }
        return what == 0 ? bestTimes : most;
    }

    public int wander(int from, int to, int what) {
        if (!pot.hasRow(from) || !pot.hasRow(to) || to < from) {
            return NONE;
        }
        switch (what) {
            case 0: return pot.wanderOver(from, to);
            case 1: return pot.huntsOver(from, to);
            default: return NONE;
        }
    }

    public int tried(int minder, int n, int much, int what) {
        Law law = minders.find(minder);
        if (law == null || pot.how() == NO_POT || !isWithin(n, 1, TRY_MINUTES)) {
            return NONE;
        }
        if (!isWithin(much, -MOST_WIDE, MOST_WIDE) || !isWithin(what, 0, 4)) {
            return NONE;
        }
        rehearse(law, n, much);
        switch (what) {
            case 0: return trial.wanderOver(pot.rows(), trial.rows() - 1);
            case 1: return trial.huntsOver(pot.rows(), trial.rows() - 1);
            case 2: return trial.rows() - pot.rows();
            case 3: return pot.left() - trial.left();
            default: return trial.wide();
        }
    }

    public int best(int n) {
        if (pot.how() != GROWS || !isWithin(n, 1, TRY_MINUTES)) {
            return NONE;
        }
        int chosen = NONE;
        int leastWander = 0;
        int fewestHunts = 0;
        for (int k = 0; k < minders.size(); k++) {
            rehearse(minders.find(k), n, 0);
            int wander = trial.wanderOver(pot.rows(), trial.rows() - 1);
            int hunts = trial.huntsOver(pot.rows(), trial.rows() - 1);
            if (chosen == NONE || wander < leastWander || wander == leastWander && hunts < fewestHunts) {
                chosen = k;
                leastWander = wander;
                fewestHunts = hunts;
            }
        }
        return chosen;
    }

    public int slice(int row, int stuff, int found, int give) {
        if (slices.isFull() || !isWithin(row, 0, ROWS - 1) || !isStuff(stuff)) {
            return NONE;
        }
        if (!isWithin(found, 0, MOST_PARTS) || !isWithin(give, 0, MOST_PARTS)) {
            return NONE;
        }
        slices.add(row, stuff, found, give);
        return slices.size();
    }

    public int span(int stuff, int what) {
        if (pot.how() == NO_POT || !isStuff(stuff) || !isWithin(what, 0, 2)) {
            return NONE;
        }
        int least = NO_SUCH;
        int greatest = NO_SUCH;
        int many = 0;
        slices.gather(stuff, pot.rows());
        for (int tried = 0; tried <= MOST_SHARE; tried++) {
            pot.replay(stuff, pot.start().putOf(stuff), tried, replayed);
            if (slices.areAsFound(replayed)) {
                least = many == 0 ? tried : least;
                greatest = tried;
                many++;
            }
        }
        return what == 0 ? least : what == 1 ? greatest : many;
    }

    public int choice(int n, int what) {
        if (pot.how() == NO_POT || !isWithin(n, 1, TRY_MINUTES) || !isWithin(what, 0, 3)) {
            return NONE;
        }
        int now = mostCoins(pot);
        trial.becomeLike(pot);
        trial.goOn(n, desk);
        int later = mostCoins(trial);
        trial.becomeLike(pot);
        if (trial.hasRow(trial.firstFaulted())) {
            trial.meltBack(trial.firstFaulted());
        }
        trial.goOn(n, desk);
        int again = mostCoins(trial);
        switch (what) {
            case 1: return now;
            case 2: return later;
            case 3: return again;
            default: return now >= later && now >= again ? 0 : later >= again ? 1 : 2;
        }
    }

    public int piece(int k, int what) {
        cutter.lay(pot, thin, wants, wantCount);
        if (k == NONE) {
            return cutter.pieces();
        }
        int first = cutter.firstRowOfPiece(k);
        if (first == NONE) {
            return NONE;
        }
        switch (what) {
            case 0: return first;
            case 1: return cutter.rowsOfPieceAt(first);
            case 2: return cutter.wantOfRow(first);
            case 3: return cutter.coinsOfPieceAt(first);
            default: return NONE;
        }
    }

    public int why(int row, int want) {
        if (!pot.hasRow(row) || want < 0 || want >= wantCount || want >= wants.length) {
            return NONE;
        }
        return wants[want].reasonsAgainst(pot, row, pot.firstClean(thin), pot.firstFaulted());
    }

    public int stripes(int stuff, int from, int to, int many) {
        if (!isStuff(stuff) || !pot.hasRow(from) || !pot.hasRow(to) || to < from || !isWithin(many, 0, MOST_PARTS)) {
            return NONE;
        }
        int found = 0;
        for (int row = from + 1; row <= to; row++) {
            if (Math.abs(pot.partsOf(stuff, row) - pot.partsOf(stuff, row - 1)) > many) {
                found++;
            }
        }
        return found;
    }

    public int ring(int row, int seen) {
        if (rings >= RINGS || !isWithin(row, 0, ROWS - 1) || !isWithin(seen, -9999, 19999)) {
            return NONE;
        }
        ringRows[rings] = row;
        ringSeen[rings] = seen;
        rings++;
        return rings;
    }

    public int awry(int give, int what) {
        if (!isWithin(give, 0, 9999) || !isWithin(what, 0, 2)) {
            return -2000;
        }
        int least = -500;
        int greatest = 500;
        for (int k = 0; k < rings && k < RINGS; k++) {
            if (pot.hasRow(ringRows[k])) {
                int beside = ringSeen[k] - pot.wideOf(ringRows[k]);
                least = Math.max(least, beside - give);
                greatest = Math.min(greatest, beside + give);
            }
        }
        if (what == 2) {
            return Math.max(0, greatest - least + 1);
        }
        if (least > greatest) {
            return -1000;
        }
        return what == 0 ? least : greatest;
    }

    public int far(int minder, int n, int within) {
        Law law = minders.find(minder);
        if (law == null || pot.how() != GROWS || !isWithin(n, 1, TRY_MINUTES) || !isWithin(within, 0, 9999)) {
            return NONE;
        }
        for (int m = 0; m <= 100; m++) {
            rehearse(law, n, m);
            int above = trial.besideWant();
            rehearse(law, n, -m);
            if (above > within || trial.besideWant() > within) {
                return m == 0 ? NO_SUCH : m - 1;
            }
        }
        return 100;
    }

    public int image(int k) {
        if (!isImage(k)) {
            return NONE;
        }
        images[k].take(pot, thin, put, share);
        return pot.rows();
    }

    public int back(int k) {
        if (!isImage(k) || !images[k].isMade()) {
            return NONE;
        }
        images[k].giveBack(pot, put, share);
        thin = images[k].thinThen();
        return pot.rows();
    }

    private boolean isImage(int k) {
        return k >= 0 && k < images.length;
    }

    private int mostCoins(Pot from) {
        cutter.lay(from, thin, wants, wantCount);
        return cutter.coins();
    }

    private void rehearse(Law law, int n, int much) {
        trial.becomeLike(pot);
        trial.follow(law);
        trial.shiftWide(much);
        trial.goOn(n, desk);
    }

    private static int countBetween(long[] parts, int rows, int low, int high) {
        int many = 0;
        for (int row = 0; row < rows && row < parts.length; row++) {
            if (parts[row] >= low && parts[row] <= high) {
                many++;
            }
        }
        return many;
    }

    private static int replace(int[] numbers, int place, int n) {
        if (place < 0 || place >= numbers.length) {
            return NONE;
        }
        int before = numbers[place];
        numbers[place] = n;
        return before;
    }

    private static boolean isStuff(int stuff) {
        return stuff >= 0 && stuff < STUFFS;
    }

    private static boolean isWithin(int n, int low, int high) {
        return n >= low && n <= high;
    }

    private static boolean isSpan(int low, int high) {
        return low >= 0 && high <= MOST_PARTS && low <= high;
    }

    private static long hold(long n, long low, long high) {
        return Math.max(low, Math.min(high, n));
    }

    private static long partsInMillion(long amount, long grown) {
        return grown == 0 ? 0 : amount * MILLION / grown;
    }

    private static long goesAlong(long melt, long grown, long left, long thousandths) {
        return left == 0 ? 0 : Math.min(melt, melt * grown / left * thousandths / 1000);
    }

    // The bytes that are fed until they are read as a text.
    private static final class Tape {
        private final int[] bytes = new int[TAPE_BYTES];
        private int size = 0;

        int size() {
            return size;
        }

        void add(int number) {
            for (int shift = 24; shift >= 0; shift -= 8) {
                if (size < bytes.length) {
                    bytes[size] = number >>> shift & 255;
                    size++;
                }
            }
        }

        void shorten(int n) {
            size = Math.max(0, Math.min(n, size));
        }

        int byteAt(int place) {
            return place >= 0 && place < size && place < bytes.length ? bytes[place] : END;
        }
    }

    // A text that has been read: its SUMS and TESTS as code for a stack, VALUES ahead of what is done with them.
    private static final class Law {
        // A piece of code stands for a byte of the text or more, so there is room for all of it.
        private final int[] code = new int[TAPE_BYTES];
        private int size = 0;
        private final int[] kinds = new int[CLAUSES];
        private final int[] sums = new int[CLAUSES];
        private final int[] tests = new int[CLAUSES];
        private final int[] ends = new int[CLAUSES];
        private int rules = 0;
        private int swirl = NONE;
        private int late = NONE;
        private int gives = NONE;

        void clear() {
            size = 0;
            rules = 0;
            swirl = NONE;
            late = NONE;
            gives = NONE;
        }

        void becomeLike(Law other) {
            System.arraycopy(other.code, 0, code, 0, code.length);
            System.arraycopy(other.kinds, 0, kinds, 0, kinds.length);
            System.arraycopy(other.sums, 0, sums, 0, sums.length);
            System.arraycopy(other.tests, 0, tests, 0, tests.length);
            System.arraycopy(other.ends, 0, ends, 0, ends.length);
            size = other.size;
            rules = other.rules;
            swirl = other.swirl;
            late = other.late;
            gives = other.gives;
        }

        void write(int step) {
            if (size < code.length) {
                code[size] = step;
                size++;
            }
        }

        void addRule(int kind, int sum, int test) {
            if (rules < CLAUSES) {
                kinds[rules] = kind;
                sums[rules] = sum;
                tests[rules] = test;
                ends[rules] = size;
                rules++;
            }
        }

        void setNumber(int kind, int n) {
            if (kind == SWIRL) {
                swirl = n;
            } else if (kind == LATE) {
                late = n;
            } else {
                gives = n;
            }
        }

        boolean hasNumber(int kind) {
            return kind == SWIRL && swirl != NONE || kind == LATE && late != NONE || kind == GIVES && gives != NONE;
        }

        int size() {
            return size;
        }

        int rules() {
            return rules;
        }

        int swirl() {
            return Math.max(0, swirl);
        }

        int late() {
            return Math.max(0, late);
        }

        int given(int stuff) {
            return stuff == GIVEN_STUFF ? Math.max(0, gives) : 0;
        }

        int codeAt(int place) {
            return place >= 0 && place < code.length ? code[place] : 0;
        }

        int kindOf(int rule) {
            return rule >= 0 && rule < CLAUSES ? kinds[rule] : NONE;
        }

        int sumOf(int rule) {
            return rule >= 0 && rule < CLAUSES ? sums[rule] : 0;
        }

        int testOf(int rule) {
            return rule >= 0 && rule < CLAUSES ? tests[rule] : 0;
        }

        int endOf(int rule) {
            return rule >= 0 && rule < CLAUSES ? ends[rule] : 0;
        }
    }

    // All FURNACES, or all MINDERS.
    private static final class Laws {
        private final Law[] laws;
        private int size = 0;

        Laws(int most) {
            laws = new Law[Math.max(0, most)];
            for (int k = 0; k < laws.length; k++) {
                laws[k] = new Law();
            }
        }

        int size() {
            return size;
        }

        boolean isFull() {
            return size >= laws.length;
        }

        int add(Law law) {
            if (isFull()) {
                return NONE;
            }
            laws[size].becomeLike(law);
            size++;
            return size - 1;
        }

        Law find(int k) {
            return k >= 0 && k < size && k < laws.length ? laws[k] : null;
        }
    }

    // Reads the TAPE as a text, up to its first FAULT.
    private static final class Reader {
        private final Tape tape = new Tape();
        private final Law draft = new Law();
        private boolean ofFurnace = false;
        private int at = 0;
        private int told = 0;
        private int found = 0;

        Tape tape() {
            return tape;
        }

        int readInto(Laws laws, boolean asFurnace) {
            if (laws.isFull()) {
                return NONE;
            }
            ofFurnace = asFurnace;
            at = 0;
            told = 0;
            found = 0;
            draft.clear();
            boolean more = true;
            for (int n = 0; n <= CLAUSES && more; n++) {
                readClause(n);
                more = found == 0 && nextByte() != END;
                if (more) {
                    expect(';');
                }
            }
            tape.shorten(0);
            return found == 0 ? laws.add(draft) : -2 - found;
        }

        // What comes later along the text is no matter any more.
        private void fail(int place, int kind) {
            if (found == 0) {
                found = 1 + 8 * place + kind;
            }
        }

        private void readClause(int number) {
            nextByte();
            int kind = clauseKind();
            if (kind == NONE) {
                fail(at, OUT_OF_PLACE);
                return;
            }
            if (number >= CLAUSES || draft.hasNumber(kind)) {
                fail(at, CLAUSE_TOO_MANY);
                return;
            }
            at = wordEnd();
            if (kind == SWIRL || kind == LATE || kind == GIVES) {
                nextByte();
                draft.setNumber(kind, readNumber(kind == SWIRL ? 99 : kind == LATE ? 9 : 9999));
                return;
            }
            int sum = draft.size();
            readSum(0);
            int test = draft.size();
            if (takesWord("if")) {
                readTest(0);
            }
            draft.addRule(kind, sum, test);
        }

        private int clauseKind() {
            if (!ofFurnace) {
                return isWord("pull") ? SET_PULL : isWord("heat") ? SET_HEAT : NONE;
            }
            if (isWord("wide")) {
                return SET_WIDE;
            }
            return isWord("swirl") ? SWIRL : isWord("late") ? LATE : isWord("gives") ? GIVES : NONE;
        }

        private void readTest(int depth) {
            readPart(depth);
            for (int n = 0; n < TAPE_BYTES && takesWord("or"); n++) {
                readPart(depth);
                draft.write(OR);
            }
        }

        private void readPart(int depth) {
            readFact(depth);
            for (int n = 0; n < TAPE_BYTES && takesWord("and"); n++) {
                readFact(depth);
                draft.write(AND);
            }
        }

        private void readFact(int depth) {
            int next = nextByte();
            if (isWord("not")) {
                if (opens(depth)) {
                    at = wordEnd();
                    readFact(depth + 1);
                    draft.write(NOT);
                }
            } else if (next == '[') {
                if (opens(depth)) {
                    at++;
                    readTest(depth + 1);
                    expect(']');
                }
            } else {
                readSum(depth);
                int sign = readSign();
                if (found == 0) {
                    readSum(depth);
                    draft.write(sign);
                }
            }
        }

        private boolean opens(int depth) {
            if (depth >= DEEPEST) {
                fail(at, TOO_DEEP);
            }
            return found == 0;
        }

        private int readSign() {
            int first = nextByte();
            if (first != '<' && first != '=' && first != '>') {
                fail(at, OUT_OF_PLACE);
                return SAME;
            }
            countTold(at);
            at++;
            boolean orSame = first != '=' && tape.byteAt(at) == '=';
            if (orSame) {
                at++;
            }
            if (first == '<') {
                return orSame ? AT_MOST : LESS;
            }
            return first == '=' ? SAME : orSame ? AT_LEAST : MORE;
        }

        private void readSum(int depth) {
            readTerm(depth);
            for (int n = 0; n < TAPE_BYTES && found == 0; n++) {
                int sign = nextByte();
                if (sign != '+' && sign != '-') {
                    return;
                }
                at++;
                readTerm(depth);
                draft.write(sign == '+' ? PLUS : MINUS);
            }
        }

        private void readTerm(int depth) {
            readValue(depth);
            for (int n = 0; n < TAPE_BYTES && found == 0; n++) {
                int sign = nextByte();
                if (sign != '*' && sign != '/') {
                    return;
                }
                at++;
                readValue(depth);
                draft.write(sign == '*' ? TIMES : BY);
            }
        }

        private void readValue(int depth) {
            int next = nextByte();
            int place = at;
            if (next == '(') {
                if (opens(depth)) {
                    at++;
                    readSum(depth + 1);
                    expect(')');
                }
            } else if (isDigit(next)) {
                draft.write(readNumber(MOST_NUMBER));
                countTold(place);
            } else {
                draft.write(-1 - wordNumber());
                at = wordEnd();
                countTold(place);
            }
        }

        private void countTold(int place) {
            told++;
            if (told > MOST_TOLD) {
                fail(place, TOO_MANY_TOLD);
            }
        }

        private int readNumber(int most) {
            int place = at;
            int n = 0;
            int digits = 0;
            while (digits < TAPE_BYTES && isDigit(tape.byteAt(at))) {
                n = digits < MOST_DIGITS ? n * 10 + tape.byteAt(at) - '0' : n;
                digits++;
                at++;
            }
            if (digits == 0) {
                fail(place, OUT_OF_PLACE);
            } else if (digits > MOST_DIGITS || n > most) {
                fail(place, BAD_NUMBER);
            }
            return n;
        }

        private int wordNumber() {
            if (isWord("minute")) {
                return MINUTE;
            }
            if (isWord("seen")) {
                return SEEN;
            }
            if (isWord("was")) {
                return WAS;
            }
            if (isWord("want")) {
                return WANT;
            }
            if (isWord("heat")) {
                return HEAT;
            }
            if (isWord("pull")) {
                return PULL;
            }
            if (isWord("left")) {
                return LEFT;
            }
            if (isWord("long")) {
                return LONG;
            }
            if (!ofFurnace || !isWord("wide")) {
                fail(at, OUT_OF_PLACE);
            }
            return WIDE;
        }

        private int nextByte() {
            while (at < TAPE_BYTES && tape.byteAt(at) == ' ') {
                at++;
            }
            return tape.byteAt(at);
        }

        private void expect(int sign) {
            if (nextByte() == sign) {
                at++;
            } else {
                fail(at, OUT_OF_PLACE);
            }
        }

        private boolean takesWord(String word) {
            nextByte();
            if (found != 0 || !isWord(word)) {
                return false;
            }
            at = wordEnd();
            return true;
        }

        private boolean isWord(String word) {
            for (int k = 0; k < word.length(); k++) {
                if (tape.byteAt(at + k) != word.charAt(k)) {
                    return false;
                }
            }
            return !isLetter(tape.byteAt(at + word.length()));
        }

        private int wordEnd() {
            int end = at;
            while (end < TAPE_BYTES && isLetter(tape.byteAt(end))) {
                end++;
            }
            return end;
        }

        private static boolean isLetter(int sign) {
            return sign >= 'a' && sign <= 'z';
        }

        private static boolean isDigit(int sign) {
            return sign >= '0' && sign <= '9';
        }
    }

    // What the WORDS mean in a MINUTE, and the stack on which laws are reckoned by them.
    private static final class Desk {
        private final long[] words = new long[WORDS];
        private final long[] stack = new long[MOST_TOLD];
        private int top = 0;

        void tell(int word, long n) {
            if (word >= 0 && word < words.length) {
                words[word] = n;
            }
        }

        long first(Law law, int kind, long otherwise) {
            for (int rule = 0; rule < law.rules(); rule++) {
                int sum = law.sumOf(rule);
                int test = law.testOf(rule);
                int end = law.endOf(rule);
                if (law.kindOf(rule) == kind && (test == end || reckon(law, test, end) != 0)) {
                    return reckon(law, sum, test);
                }
            }
            return otherwise;
        }

        private long reckon(Law law, int from, int to) {
            top = 0;
            for (int at = from; at < to; at++) {
                int code = law.codeAt(at);
                if (code >= 0) {
                    push(code);
                } else if (code >= -WORDS) {
                    push(words[-1 - code]);
                } else if (code == NOT) {
                    push(pop() == 0 ? 1 : 0);
                } else {
                    long right = pop();
                    long left = pop();
                    push(code >= BY ? reckonSum(code, left, right) : decide(code, left, right) ? 1 : 0);
                }
            }
            return pop();
        }

        private static long reckonSum(int code, long left, long right) {
            switch (code) {
                case PLUS: return left + right;
                case MINUS: return left - right;
                case TIMES: return left * right;
                default: return right == 0 ? 0 : left / right;
            }
        }

        private static boolean decide(int code, long left, long right) {
            switch (code) {
                case LESS: return left < right;
                case AT_MOST: return left <= right;
                case SAME: return left == right;
                case AT_LEAST: return left >= right;
                case MORE: return left > right;
                case AND: return left != 0 && right != 0;
                default: return left != 0 || right != 0;
            }
        }

        private void push(long n) {
            if (top < stack.length) {
                stack[top] = n;
                top++;
            }
        }

        private long pop() {
            if (top <= 0) {
                return 0;
            }
            top--;
            return stack[top];
        }
    }

    // What a POT was begun with.
    private static final class Start {
        private int grams = 0;
        private int want = 0;
        private int heat = 0;
        private int wide = 0;
        private int life = 0;
        private int faults = 0;
        private final int[] put = new int[STUFFS];
        private final int[] share = new int[STUFFS];

        void tell(int newGrams, int newWant, int newHeat, int newWide, int newLife, int newFaults) {
            grams = newGrams;
            want = newWant;
            heat = newHeat;
            wide = newWide;
            life = newLife;
            faults = newFaults;
        }

        void tellStuffs(int[] newPut, int[] newShare) {
            for (int stuff = 0; stuff < STUFFS && stuff < newPut.length && stuff < newShare.length; stuff++) {
                put[stuff] = newPut[stuff];
                share[stuff] = newShare[stuff];
            }
        }

        void becomeLike(Start other) {
            tell(other.grams, other.want, other.heat, other.wide, other.life, other.faults);
            tellStuffs(other.put, other.share);
        }

        int grams() {
            return grams;
        }

        int wideWanted() {
            return want;
        }

        int heat() {
            return heat;
        }

        int wide() {
            return wide;
        }

        int life() {
            return life;
        }

        int faultsThen() {
            return faults;
        }

        int putOf(int stuff) {
            return isStuff(stuff) ? put[stuff] : 0;
        }

        int shareOf(int stuff) {
            return isStuff(stuff) ? share[stuff] : 0;
        }
    }

    // A POT with its ROWS, or none.
    private static final class Pot {
        private final Start start = new Start();
        private Law furnaceLaw = null;
        private Law minderLaw = null;
        private int how = NO_POT;
        private long seed = 0;
        private int left = 0;
        private int wide = 0;
        private int heat = 0;
        private int pull = 0;
        private int length = 0;
        private int minutes = 0;
        private int rows = 0;
        private final int[] wides = new int[ROWS];
        private final int[] heats = new int[ROWS];
        private final int[] pulls = new int[ROWS];
        private final int[] growns = new int[ROWS];
        private final boolean[] faulty = new boolean[ROWS];
        private final long[] went = new long[ROWS * STUFFS];
        private final long[] melt = new long[STUFFS];

        Start start() {
            return start;
        }

        void open(Law furnace, Law minder, int firstSeed) {
            furnaceLaw = furnace;
            minderLaw = minder;
            seed = firstSeed;
            how = GROWS;
            left = start.grams();
            wide = start.wide();
            heat = start.heat();
            pull = 0;
            length = 0;
            minutes = 0;
            rows = 0;
            for (int stuff = 0; stuff < STUFFS; stuff++) {
                melt[stuff] = start.putOf(stuff);
            }
        }

        void becomeLike(Pot other) {
            start.becomeLike(other.start);
            furnaceLaw = other.furnaceLaw;
            minderLaw = other.minderLaw;
            how = other.how;
            seed = other.seed;
            left = other.left;
            wide = other.wide;
            heat = other.heat;
            pull = other.pull;
            length = other.length;
            minutes = other.minutes;
            rows = Math.min(other.rows, ROWS);
            System.arraycopy(other.wides, 0, wides, 0, rows);
            System.arraycopy(other.heats, 0, heats, 0, rows);
            System.arraycopy(other.pulls, 0, pulls, 0, rows);
            System.arraycopy(other.growns, 0, growns, 0, rows);
            System.arraycopy(other.went, 0, went, 0, rows * STUFFS);
            System.arraycopy(other.melt, 0, melt, 0, STUFFS);
            for (int row = 0; row < rows; row++) {
                faulty[row] = other.faulty[row];
            }
        }

        void follow(Law minder) {
            minderLaw = minder;
        }

        int besideWant() {
            return Math.abs(wide - start.wideWanted());
        }

        void shiftWide(int much) {
            wide = (int) hold(wide + much, 0, MOST_WIDE);
        }

        int goOn(int n, Desk desk) {
            int done = 0;
            while (done < n && how == GROWS) {
                passMinute(desk);
                done++;
            }
            return done;
        }

        private void passMinute(Desk desk) {
            if (furnaceLaw == null || minderLaw == null || rows >= ROWS) {
                return;
            }
            tellWords(desk);
            long pulled = desk.first(minderLaw, SET_PULL, pull);
            long heated = desk.first(minderLaw, SET_HEAT, heat);
            pull = (int) hold(pulled, 0, 99);
            heat = (int) hold(heated, 0, 999);
            desk.tell(HEAT, heat);
            desk.tell(PULL, pull);
            long wider = hold(desk.first(furnaceLaw, SET_WIDE, 0), -MOST_WIDE, MOST_WIDE);
            wide = (int) hold(wide + wider + swirled(), 0, MOST_WIDE);
            addRow();
            minutes++;
            how = howBehindMinute();
        }

        private void tellWords(Desk desk) {
            int seen = rows - 1 - furnaceLaw.late();
            desk.tell(MINUTE, rows);
            desk.tell(SEEN, wideSeen(seen));
            desk.tell(WAS, wideSeen(seen - 1));
            desk.tell(WANT, start.wideWanted());
            desk.tell(HEAT, heat);
            desk.tell(PULL, pull);
            desk.tell(LEFT, start.grams() == 0 ? 0 : left * 1000L / start.grams());
            desk.tell(LONG, length);
            desk.tell(WIDE, wide);
        }

        private int wideSeen(int row) {
            return hasRow(row) ? wides[row] : start.wide();
        }

        private long swirled() {
            seed = (seed * 1103515245L + 12345L) % 2147483648L;
            int swirl = furnaceLaw.swirl();
            return seed / 65536 % (2 * swirl + 1) - swirl;
        }

        private void addRow() {
            int grown = (int) Math.min(left, (long) pull * wide * wide / 100000);
            for (int stuff = 0; stuff < STUFFS; stuff++) {
                melt[stuff] += furnaceLaw.given(stuff);
                long along = goesAlong(melt[stuff], grown, left, start.shareOf(stuff));
                melt[stuff] -= along;
                went[rows * STUFFS + stuff] = along;
            }
            wides[rows] = wide;
            heats[rows] = heat;
            pulls[rows] = pull;
            growns[rows] = grown;
            faulty[rows] = false;
            left -= grown;
            length += pull;
            rows++;
        }

        private int howBehindMinute() {
            if (left == 0) {
                return NOTHING_LEFT;
            }
            if (wide == 0) {
                return TORN_OFF;
            }
            if (rows >= ROWS) {
                return ALL_ROWS;
            }
            return minutes >= start.life() ? LIFE_OVER : GROWS;
        }

        int meltBack(int first) {
            int gone = rows - first;
            for (int row = first; row < rows; row++) {
                left += grownOf(row);
                length -= pullOf(row);
                for (int stuff = 0; stuff < STUFFS; stuff++) {
                    melt[stuff] += wentInto(stuff, row);
                }
            }
            rows = first;
            wide = first == 0 ? start.wide() : wideOf(first - 1);
            heat = first == 0 ? start.heat() : heatOf(first - 1);
            pull = first == 0 ? 0 : pullOf(first - 1);
            how = minutes >= start.life() ? LIFE_OVER : GROWS;
            return gone;
        }

        boolean tellFault(int row) {
            if (!hasRow(row) || faulty[row]) {
                return false;
            }
            faulty[row] = true;
            return true;
        }

        // Behind all ROWS without a FAULT.
        int firstFaulted() {
            for (int row = 0; row < rows; row++) {
                if (faulty[row]) {
                    return row;
                }
            }
            return rows;
        }

        // Behind all ROWS if none is CLEAN.
        int firstClean(int thin) {
            int faults = start.faultsThen();
            for (int row = 0; row < rows; row++) {
                if (faults <= 0) {
                    return row;
                }
                faults -= wides[row] <= thin ? pulls[row] : 0;
            }
            return rows;
        }

        int faultsLeft(int thin) {
            int faults = start.faultsThen();
            for (int row = 0; row < rows; row++) {
                faults -= wides[row] <= thin ? pulls[row] : 0;
            }
            return Math.max(0, faults);
        }

        int tearsAt(int thin) {
            int thinnest = thinnestOfNeck(thin);
            if (thinnest == NONE) {
                return NO_SUCH;
            }
            int bears = wideOf(thinnest) * wideOf(thinnest) / 10;
            int hangs = 0;
            for (int row = thinnest + 1; row < rows; row++) {
                hangs += growns[row];
                if (hangs > bears) {
                    return row;
                }
            }
            return NO_SUCH;
        }

        private int thinnestOfNeck(int thin) {
            int thinnest = NONE;
            for (int row = 0; row < rows; row++) {
                if (wides[row] <= thin && (thinnest == NONE || wides[row] < wideOf(thinnest))) {
                    thinnest = row;
                }
            }
            return thinnest;
        }

        int kindOf(int row, int thin) {
            if (wideOf(row) <= thin) {
                return NECK;
            }
            if (isBody(row, thin)) {
                return BODY;
            }
            for (int ahead = 0; ahead < row; ahead++) {
                if (isBody(ahead, thin)) {
                    return TAIL;
                }
            }
            return SHOULDER;
        }

        private boolean isBody(int row, int thin) {
            return wideOf(row) > thin && Math.abs(wideOf(row) - start.wideWanted()) <= start.wideWanted() / 10;
        }

        int wanderOver(int from, int to) {
            int most = 0;
            for (int row = from; row <= to; row++) {
                most = Math.max(most, Math.abs(wideOf(row) - start.wideWanted()));
            }
            return most;
        }

        int huntsOver(int from, int to) {
            int many = 0;
            int side = 0;
            for (int row = from; row <= to; row++) {
                int above = wideOf(row) - start.wideWanted();
                if (above > 0 && side < 0 || above < 0 && side > 0) {
                    many++;
                }
                side = above == 0 ? side : above;
            }
            return many;
        }

        // The parts in a million that the ROWS there are would have, had so much been put in and this share gone along.
        void replay(int stuff, long put, int share, long[] parts) {
            long inMelt = put;
            long leftThen = start.grams();
            int given = furnaceLaw == null ? 0 : furnaceLaw.given(stuff);
            for (int row = 0; row < rows && row < parts.length; row++) {
                inMelt += given;
                long along = goesAlong(inMelt, growns[row], leftThen, share);
                parts[row] = partsInMillion(along, growns[row]);
                inMelt -= along;
                leftThen -= growns[row];
            }
        }

        boolean hasRow(int row) {
            return row >= 0 && row < rows && row < ROWS;
        }

        int how() {
            return how;
        }

        int rows() {
            return rows;
        }

        int left() {
            return left;
        }

        int wide() {
            return wide;
        }

        int heat() {
            return heat;
        }

        int pull() {
            return pull;
        }

        int length() {
            return length;
        }

        int minutes() {
            return minutes;
        }

        int wideOf(int row) {
            return hasRow(row) ? wides[row] : 0;
        }

        int heatOf(int row) {
            return hasRow(row) ? heats[row] : 0;
        }

        int pullOf(int row) {
            return hasRow(row) ? pulls[row] : 0;
        }

        int grownOf(int row) {
            return hasRow(row) ? growns[row] : 0;
        }

        long meltOf(int stuff) {
            return isStuff(stuff) ? melt[stuff] : 0;
        }

        long wentInto(int stuff, int row) {
            return isStuff(stuff) && hasRow(row) ? went[row * STUFFS + stuff] : 0;
        }

        long partsOf(int stuff, int row) {
            return partsInMillion(wentInto(stuff, row), grownOf(row));
        }
    }

    // A WANT: which ROWS it takes, how long they must be together, and what it pays.
    private static final class Want {
        private int stuff = 0;
        private int low = 0;
        private int high = 0;
        private int wide = 0;
        private int length = 1;
        private int coins = 1;

        void tell(int newStuff, int newLow, int newHigh, int newWide, int newLength, int newCoins) {
            stuff = newStuff;
            low = newLow;
            high = newHigh;
            wide = newWide;
            length = newLength;
            coins = newCoins;
        }

        int length() {
            return length;
        }

        int coins() {
            return coins;
        }

        int reasonsAgainst(Pot pot, int row, int firstClean, int firstFaulted) {
            long parts = pot.partsOf(stuff, row);
            int reasons = row < firstClean ? 1 : 0;
            reasons += row >= firstFaulted ? 2 : 0;
            reasons += pot.wideOf(row) < wide ? 4 : 0;
            reasons += parts < low ? 8 : 0;
            reasons += parts > high ? 16 : 0;
            return reasons;
        }
    }

    // Lays the CUT by which WHOSE is told: from the last ROW on, what is best from each ROW to the end.
    private static final class Cutter {
        private final int[] most = new int[ROWS + 1];
        private final int[] taken = new int[ROWS + 1];
        private final int[] takers = new int[ROWS + 1];
        private final int[] lengths = new int[ROWS + 1];
        private final int[] runEnds = new int[WANTS];
        private int rows = 0;

        void lay(Pot pot, int thin, Want[] wants, int wantCount) {
            rows = Math.min(pot.rows(), ROWS);
            for (int row = 0; row < rows; row++) {
                lengths[row + 1] = lengths[row] + pot.pullOf(row);
            }
            for (int want = 0; want < WANTS; want++) {
                runEnds[want] = rows;
            }
            most[rows] = 0;
            int firstClean = pot.firstClean(thin);
            int firstFaulted = pot.firstFaulted();
            for (int row = rows - 1; row >= 0; row--) {
                most[row] = most[row + 1];
                taken[row] = 0;
                for (int want = 0; want < wantCount && want < WANTS && want < wants.length; want++) {
                    if (wants[want].reasonsAgainst(pot, row, firstClean, firstFaulted) == 0) {
                        offerPieces(row, want, wants[want]);
                    } else {
                        runEnds[want] = row;
                    }
                }
            }
        }

        private void offerPieces(int row, int number, Want want) {
            int end = number >= 0 && number < WANTS ? runEnds[number] : row;
            int shortest = NONE;
            for (int next = row + 1; next <= end && next <= rows; next++) {
                int length = lengths[next] - lengths[row];
                // What is two PIECES for the same WANT brings no more as one, and two are preferred.
                if (shortest != NONE && lengths[next] - lengths[shortest] >= want.length()) {
                    return;
                }
                if (length >= want.length()) {
                    shortest = shortest == NONE ? next : shortest;
                    offer(row, next - row, number, want.coins() * length + most[next]);
                }
            }
        }

        private void offer(int row, int many, int number, int coins) {
            if (coins > most[row] || coins == most[row] && many < taken[row]) {
                most[row] = coins;
                taken[row] = many;
                takers[row] = number;
            }
        }

        int coins() {
            return most[0];
        }

        int pieces() {
            int many = 0;
            for (int row = 0; row < rows; row += Math.max(1, taken[row])) {
                many += taken[row] > 0 ? 1 : 0;
            }
            return many;
        }

        int firstRowOfPiece(int k) {
            int many = 0;
            for (int row = 0; row < rows; row += Math.max(1, taken[row])) {
                if (taken[row] > 0 && many == k) {
                    return row;
                }
                many += taken[row] > 0 ? 1 : 0;
            }
            return NONE;
        }

        int wantOfRow(int wanted) {
            for (int row = 0; row < rows; row += Math.max(1, taken[row])) {
                if (wanted >= row && wanted < row + Math.max(1, taken[row])) {
                    return taken[row] > 0 ? takers[row] : NONE;
                }
            }
            return NONE;
        }

        int rowsOfPieceAt(int row) {
            return row >= 0 && row < rows ? taken[row] : 0;
        }

        int coinsOfPieceAt(int row) {
            int end = row + rowsOfPieceAt(row);
            return row >= 0 && end <= rows ? most[row] - most[end] : 0;
        }
    }

    // What was found in ROWS, of which STUFF.
    private static final class Slices {
        private final int[] sliceRows = new int[SLICES];
        private final int[] stuffs = new int[SLICES];
        private final int[] founds = new int[SLICES];
        private final int[] gives = new int[SLICES];
        private int size = 0;
        private final long[] lows = new long[ROWS];
        private final long[] highs = new long[ROWS];
        private int gathered = 0;

        int size() {
            return size;
        }

        boolean isFull() {
            return size >= SLICES;
        }

        void add(int row, int stuff, int found, int give) {
            if (!isFull()) {
                sliceRows[size] = row;
                stuffs[size] = stuff;
                founds[size] = found;
                gives[size] = give;
                size++;
            }
        }

        // What all SLICES of a STUFF let each ROW have: gone over once here, not again for each share.
        void gather(int stuff, int rows) {
            gathered = Math.min(rows, ROWS);
            for (int row = 0; row < gathered; row++) {
                lows[row] = -NO_LIMIT;
                highs[row] = NO_LIMIT;
            }
            for (int k = 0; k < size && k < SLICES; k++) {
                int row = sliceRows[k];
                if (stuffs[k] == stuff && row >= 0 && row < gathered) {
                    lows[row] = Math.max(lows[row], (long) founds[k] - gives[k]);
                    highs[row] = Math.min(highs[row], (long) founds[k] + gives[k]);
                }
            }
        }

        boolean areAsFound(long[] parts) {
            for (int row = 0; row < gathered && row < parts.length; row++) {
                if (parts[row] < lows[row] || parts[row] > highs[row]) {
                    return false;
                }
            }
            return true;
        }
    }

    // The POT as it was, with what is told ahead of the next one.
    private static final class Image {
        private final Pot pot = new Pot();
        private final int[] put = new int[STUFFS];
        private final int[] share = new int[STUFFS];
        private int thin = 0;
        private boolean made = false;

        void take(Pot from, int thinNow, int[] putNow, int[] shareNow) {
            pot.becomeLike(from);
            copyStuffs(putNow, put);
            copyStuffs(shareNow, share);
            thin = thinNow;
            made = true;
        }

        void giveBack(Pot to, int[] putNow, int[] shareNow) {
            to.becomeLike(pot);
            copyStuffs(put, putNow);
            copyStuffs(share, shareNow);
        }

        boolean isMade() {
            return made;
        }

        int thinThen() {
            return thin;
        }

        private static void copyStuffs(int[] from, int[] to) {
            for (int stuff = 0; stuff < from.length && stuff < to.length; stuff++) {
                to[stuff] = from[stuff];
            }
        }
    }
}
