import java.util.Arrays;

/** Shares on curves: curves y * y = F(x) over small prime fields, their sums, functions, classes and codes. */
public final class CurveShares {
    public static final int NONE = -1;

    private static final int CURVES = 0;
    private static final int SUMS = 1;
    private static final int FUNCTIONS = 2;
    private static final int SORTS = 3;
    private static final int[] MOST_OF_SORT = {2, 3, 3};
    private static final int[] FIRST_ROW_OF_SORT = {0, 2, 5};
    private static final int[] PRIMES = {3, 5, 7, 11, 13};

    private static final int TAPE_LIMIT = 600;
    private static final int MOST_ENTRIES = 8;
    private static final int MOST_NUMBER = 12;
    private static final int MOST_OFTEN = 5;
    private static final int MOST_OFTEN_FAR = 9;
    private static final int MOST_POWER_A = 4;
    private static final int MOST_POWER_B = 2;
    private static final int MOST_ERRORS = 9;
    private static final int MOST_FIELD = 12;
    private static final int MOST_TIMES = 99;
    private static final int MOST_WORDS = 2500;
    private static final int IMAGES = 3;

    private static final int REFUSED = -2;
    private static final int NO_SUM = -100;
    private static final int NO_ORDER = -100;
    private static final int NO_ROOM = -1000;
    private static final int NO_SHARE = -1000000;
    private static final int FAR_NUMBER = -2;

    /* A row tells one CURVE (p, degree, coefficients), SUM (entries, far, then X, Y, how often of each)
       or FUNCTION (five of A, three of B). */
    private static final int ROW_WIDTH = 26;
    private static final int COEFFICIENTS_AT = 2;
    private static final int ENTRIES_AT = 2;
    private static final int ENTRY_WIDTH = 3;
    private static final int B_AT = 5;

    private static final int PRIME_ROOM = 13;
    private static final int POINT_ROOM = 27;
    private static final int PLACE_ROOM = 26;
    /* 8 entries of 5 times: no more zeros than this are ever asked, and E's degree is no greater. */
    private static final int ZERO_ROOM = 40;
    /* Twice E's degree, 9 times FAR, and the order 0. */
    private static final int POLE_ROOM = 90;
    private static final int BASE_ROOM = 50;
    /* (1 + the root of 13) to the 4th is below this. */
    private static final int CLASS_ROOM = 450;

    private final Told now = new Told();
    private final Told[] images = new Told[IMAGES];
    private final Reader reader = new Reader(now.tape);
    private final Field trial = new Field();
    private final Euclid euclid = new Euclid();
    private final Poly trialF = new Poly();
    private final Poly trialSlope = new Poly();

    private final Curve working = new Curve();
    private final Measured measured = new Measured();
    private final Room space = new Room();
    private final Code words = new Code();
    private final Classes classes = new Classes();
    private final Pair oneClass = new Pair();
    private final Pair otherClass = new Pair();

    /* What the working objects hold now, so that a run of calls about one SUM reckons once. */
    private int workingCurve = NONE;
    private int workingSum = NONE;
    private boolean codeReady;

    public CurveShares() {
    }

    public int feed(int a, int b, int c, int d, int e) {
        if (now.length + 20 > TAPE_LIMIT) {
            return NONE;
        }
        now.append(a);
        now.append(b);
        now.append(c);
        now.append(d);
        now.append(e);
        return now.length;
    }

    public int end(int n) {
        if (n < 0 || n > now.length) {
            return NONE;
        }
        now.length = n;
        return n;
    }

    public int text(int sort, int at) {
        int length = now.length;
        // The tape is taken before anything is refused: it is empty behind every answer.
        now.length = 0;
        now.fault = 0;
        now.faultPlace = NONE;
        if (sort < 0 || sort >= SORTS) {
            return REFUSED;
        }
        boolean further = at == NONE;
        if (further ? now.counts[sort] >= MOST_OF_SORT[sort] : now.row(sort, at) == null) {
            return REFUSED;
        }
        reader.read(sort, length);
        now.fault = reader.fault;
        now.faultPlace = reader.faultPlace;
        if (now.fault == 0 && sort == CURVES && !isSound(reader.row)) {
            now.fault = 4;
            now.faultPlace = length;
        }
        if (now.fault != 0) {
            return NONE;
        }
        int number = further ? now.counts[sort] : at;
        now.tell(sort, number, reader.row);
        forget();
        return number;
    }

    public int fault(int what) {
        if (what == 0) {
            return now.fault;
        }
        return what == 1 ? now.faultPlace : NONE;
    }

    public int curve(int curve, int what) {
        int[] row = now.row(CURVES, curve);
        if (row == null || !isReady(curve)) {
            return NONE;
        }
        switch (what) {
            case 0:
                return working.field.p;
            case 1:
                return working.f.degree;
            case 2:
                return working.genus;
            case 3:
                return working.points;
            case 4:
                return working.fixedPoints();
            case 5:
                return working.shareAt(1);
            case 6:
                return 2 * working.genus + 2;
            default:
                if (what < 10 || what > 10 + working.f.degree) {
                    return NONE;
                }
                return row[COEFFICIENTS_AT + what - 10];
        }
    }

    public int sum(int sum, int what) {
        int[] row = now.row(SUMS, sum);
        if (row == null || what < 0) {
            return NO_SUM;
        }
        if (what == 0 || what == 1) {
            return row[what];
        }
        int part = what / 10 - 1;
        int entry = what % 10;
        if (part < 0 || part >= ENTRY_WIDTH || entry >= row[0] || entry >= MOST_ENTRIES) {
            return NO_SUM;
        }
        return row[ENTRIES_AT + ENTRY_WIDTH * entry + part];
    }

    public int function(int function, boolean y, int power) {
        int[] row = now.row(FUNCTIONS, function);
        if (row == null || power < 0 || power > (y ? MOST_POWER_B : MOST_POWER_A)) {
            return NONE;
        }
        return row[y ? B_AT + power : power];
    }

    public int point(int curve, int k, int what) {
        if (!isReady(curve) || !working.hasPoint(k)) {
            return NONE;
        }
        switch (what) {
            case 0:
                return working.xs[k];
            case 1:
                return working.ys[k];
            case 2:
                return working.isFixed(k) ? 1 : 0;
            default:
                return NONE;
        }
    }

    public long counted(int curve, int n, boolean places) {
        if (n < 1 || n > MOST_FIELD || !isReady(curve)) {
            return NONE;
        }
        return places ? working.places[n] : working.counts[n];
    }

    public int share(int curve, int i) {
        if (i < NONE || !isReady(curve) || i > 2 * working.genus) {
            return NO_SHARE;
        }
        return i == NONE ? working.shareAt(1) : working.share[i];
    }

    public boolean fits(int curve, int sum) {
        return isFitting(curve, sum);
    }

    public int order(int curve, int function, int k) {
        if (!isMeasured(curve, function) || !working.hasPoint(k)) {
            return NO_ORDER;
        }
        return measured.orderAt(working, k);
    }

    public int norm(int curve, int function, int what) {
        if (!isMeasured(curve, function)) {
            return NONE;
        }
        if (what < 0 || what > 19 || (what > 2 && what < 10)) {
            return NONE;
        }
        if (what >= 10) {
            return measured.norm.at(what - 10);
        }
        if (what == 0) {
            return measured.norm.degree;
        }
        int rational = measured.rational(working);
        if (what == 1) {
            return rational;
        }
        return -(rational + measured.orderAt(working, working.points - 1));
    }

    public int room(int curve, int sum, int what) {
        if (what < 0 || what > 3 || !isRoomReady(curve, sum)) {
            return NO_ROOM;
        }
        switch (what) {
            case 0:
                return space.degree;
            case 1:
                return space.dimension;
            case 2:
                return space.dimension - (space.degree + 1 - working.genus);
            default:
                return space.underDegree;
        }
    }

    public int base(int curve, int sum, int k, boolean y, int i) {
        if (i < 0 || i > POLE_ROOM || !isRoomReady(curve, sum)) {
            return NONE;
        }
        int poles = y ? 2 * i + 2 * working.genus + 1 : 2 * i;
        if (k < 0 || k >= space.dimension || poles > space.poles) {
            return NONE;
        }
        return space.coefficient(working.field, k, poles);
    }

    public int under(int curve, int sum, int i) {
        if (i < 0 || !isRoomReady(curve, sum) || i > space.underDegree) {
            return NONE;
        }
        return space.under[i];
    }

    public int gap(int curve, int k, int i) {
        if (!isReady(curve) || !working.hasPoint(k) || i < 0 || i >= working.genus) {
            return NONE;
        }
        // ROOM of 2 times a POINT is 1 with g 2, but at a FIXED one x - X (or x) has just two poles there.
        return i == 1 && working.isFixed(k) ? 3 : i + 1;
    }

    public int times(int curve, int sum, int n, int what) {
        if (n < -MOST_TIMES || n > MOST_TIMES || what < 0 || what > 4 || !isFitting(curve, sum)) {
            return NONE;
        }
        classes.ofSum(now.row(SUMS, sum), oneClass);
        classes.multiply(oneClass, n, otherClass);
        return otherClass.part(what);
    }

    public int added(int curve, int one, int two, int what) {
        if (what < 0 || what > 4 || !areFitting(curve, one, two)) {
            return NONE;
        }
        takeClasses(one, two);
        classes.plus(oneClass, otherClass, oneClass);
        return oneClass.part(what);
    }

    public int orderOf(int curve, int sum) {
        if (!isFitting(curve, sum)) {
            return NONE;
        }
        classes.ofSum(now.row(SUMS, sum), oneClass);
        return classes.orderOfClass(oneClass, working.shareAt(1));
    }

    public boolean same(int curve, int one, int two) {
        if (!areFitting(curve, one, two)) {
            return false;
        }
        takeClasses(one, two);
        return oneClass.matches(otherClass)
            && Told.degreeOf(now.row(SUMS, one)) == Told.degreeOf(now.row(SUMS, two));
    }

    public int log(int curve, int one, int two) {
        if (!areFitting(curve, one, two)) {
            return NONE;
        }
        takeClasses(one, two);
        return classes.logOf(oneClass, otherClass, working.shareAt(1));
    }

    public int torsion(int curve, int d) {
        if (d < 0 || d > MOST_TIMES || !isReady(curve)) {
            return NONE;
        }
        if (!classes.listed) {
            classes.list(working);
        }
        return d == 0 ? classes.greatestOrder() : classes.killedBy(d);
    }

    public int change(int curve, int k, int what) {
        if (k < NONE || what < 0 || what > 2 || (k == NONE && what != 0) || !isReady(curve)) {
            return NONE;
        }
        int found = working.searchChange(working.f, k);
        if (k == NONE) {
            return found;
        }
        return found > k ? working.change[what] : NONE;
    }

    public boolean like(int one, int two) {
        int[] left = now.row(CURVES, two);
        if (left == null || !isReady(one) || left[0] != working.field.p || left[1] != working.f.degree) {
            return false;
        }
        trialF.take(left, COEFFICIENTS_AT, left[1], working.field);
        return working.searchChange(trialF, 0) > 0;
    }

    public int twist(int curve, int what) {
        if (!isReady(curve)) {
            return NONE;
        }
        switch (what) {
            case 0:
                return working.field.nonSquare;
            case 1:
                // x with a square F(x) has two POINTS on the one and none on the other.
                return 2 * working.field.p + 2 - working.points;
            case 2:
                return working.shareAt(-1);
            default:
                return NONE;
        }
    }

    public int code(int curve, int sum, int what) {
        if (what < 0 || (what > 2 && what < 100) || !isRoomReady(curve, sum)) {
            return NONE;
        }
        readyCode();
        if (what == 0) {
            return words.length;
        }
        if (what == 1) {
            return words.rank;
        }
        if (words.size == NONE || what - 100 > words.length) {
            return NONE;
        }
        words.weighAll(working.field);
        return what == 2 ? words.least() : words.weigh[what - 100];
    }

    public int sent(int curve, int sum, int m, int i) {
        if (m < 0 || i < 0 || !isRoomReady(curve, sum)) {
            return NONE;
        }
        readyCode();
        if (i >= words.length) {
            return NONE;
        }
        words.send(working.field, m);
        return words.sentRow[i];
    }

    public int mended(int curve, int sum, int m, int e, int seed, int what) {
        if (m < 0 || e < 0 || e > MOST_ERRORS || what < 0 || what > 2 || !isRoomReady(curve, sum)) {
            return NONE;
        }
        readyCode();
        if (words.size == NONE || words.length == 0) {
            return NONE;
        }
        words.send(working.field, m);
        words.disturb(working.field, e, seed);
        words.mend(working.field);
        if (what == 0) {
            return words.fewest;
        }
        if (what == 1) {
            return words.nearest;
        }
        return words.isSentNearest() ? 1 : 0;
    }

    public int count(int sort) {
        return sort < 0 || sort >= SORTS ? REFUSED : now.counts[sort];
    }

    public boolean image(int k) {
        if (k < 0 || k >= IMAGES) {
            return false;
        }
        if (images[k] == null) {
            images[k] = new Told();
        }
        images[k].copy(now);
        return true;
    }

    public boolean again(int k) {
        if (k < 0 || k >= IMAGES || images[k] == null) {
            return false;
        }
        now.copy(images[k]);
        forget();
        return true;
    }

    private void forget() {
        workingCurve = NONE;
        workingSum = NONE;
        codeReady = false;
    }

    /** Whether the row can be a CURVE: the test of FAULT 4. */
    private boolean isSound(int[] row) {
        int degree = row[1];
        if (!trial.choose(row[0]) || degree < 1 || degree > 5 || row[COEFFICIENTS_AT + degree] == 0) {
            return false;
        }
        for (int i = 0; i <= degree; i++) {
            if (row[COEFFICIENTS_AT + i] >= trial.p) {
                return false;
            }
        }
        trialF.take(row, COEFFICIENTS_AT, degree, trial);
        trialSlope.slope(trial, trialF);
        euclid.run(trial, trialF, trialSlope);
        return euclid.gcd.degree == 0;
    }

    private boolean isReady(int curve) {
        int[] row = now.row(CURVES, curve);
        if (row == null) {
            return false;
        }
        if (workingCurve != curve) {
            forget();
            working.load(row);
            classes.begin(working);
            workingCurve = curve;
        }
        return true;
    }

    private boolean isMeasured(int curve, int function) {
        int[] row = now.row(FUNCTIONS, function);
        if (row == null || !isReady(curve)) {
            return false;
        }
        measured.load(working, row);
        return measured.norm.degree >= 0;
    }

    private boolean isFitting(int curve, int sum) {
        int[] row = now.row(SUMS, sum);
        return row != null && isReady(curve) && working.carries(row);
    }

    private boolean areFitting(int curve, int one, int two) {
        return isFitting(curve, one) && isFitting(curve, two);
    }

    private void takeClasses(int one, int two) {
        classes.ofSum(now.row(SUMS, one), oneClass);
        classes.ofSum(now.row(SUMS, two), otherClass);
    }

    private boolean isRoomReady(int curve, int sum) {
        int[] row = now.row(SUMS, sum);
        if (row == null || !isFitting(curve, sum)) {
            return false;
        }
        if (workingSum != sum) {
            space.load(working, row);
            workingSum = sum;
            codeReady = false;
        }
        return true;
    }

    /** Takes the CODE of the SUM whose ROOM is ready. */
    private void readyCode() {
        if (!codeReady) {
            words.load(working, space);
            codeReady = true;
        }
    }

    /** All that is told: what an image keeps. */
    private static final class Told {
        final byte[] tape = new byte[TAPE_LIMIT];
        int length;
        int fault;
        int faultPlace = NONE;
        final int[] counts = new int[SORTS];
        final int[][] rows = new int[8][ROW_WIDTH];

        void append(int number) {
            for (int shift = 24; shift >= 0 && length < tape.length; shift -= 8) {
                tape[length] = (byte) (number >>> shift);
                length++;
            }
        }

        int[] row(int sort, int k) {
            if (k < 0 || k >= counts[sort]) {
                return null;
            }
            return rows[FIRST_ROW_OF_SORT[sort] + k];
        }

        void tell(int sort, int k, int[] row) {
            if (k < 0 || k >= MOST_OF_SORT[sort]) {
                return;
            }
            System.arraycopy(row, 0, rows[FIRST_ROW_OF_SORT[sort] + k], 0, ROW_WIDTH);
            if (k == counts[sort]) {
                counts[sort] = k + 1;
            }
        }

        void copy(Told other) {
            System.arraycopy(other.tape, 0, tape, 0, tape.length);
            length = other.length;
            fault = other.fault;
            faultPlace = other.faultPlace;
            System.arraycopy(other.counts, 0, counts, 0, SORTS);
            for (int i = 0; i < rows.length; i++) {
                System.arraycopy(other.rows[i], 0, rows[i], 0, ROW_WIDTH);
            }
        }

        static int degreeOf(int[] row) {
            if (row == null) {
                return 0;
            }
            int degree = row[1];
            for (int i = 0; i < row[0] && i < MOST_ENTRIES; i++) {
                degree += row[ENTRIES_AT + ENTRY_WIDTH * i + 2];
            }
            return degree;
        }
    }

    /** Reads the tape as a text of a sort into a row, or tells FAULT 1, 2 or 3. */
    private static final class Reader {
        private static final int END = 0;
        private static final int WORD = 1;
        private static final int NUMBER = 2;
        private static final int MINUS = 3;
        private static final int SEMICOLON = 4;
        private static final int WRONG = 5;

        final int[] row = new int[ROW_WIDTH];
        int fault;
        int faultPlace;
        private final byte[] tape;
        private int length;
        private int position;
        private int kind;
        private int start;

        Reader(byte[] tape) {
            this.tape = tape;
        }

        void read(int sort, int bytes) {
            length = Math.min(bytes, tape.length);
            position = 0;
            fault = 0;
            faultPlace = NONE;
            beginRow(sort);
            next();
            for (int line = 0; line <= length && kind != END && fault != 1; line++) {
                if (sort == CURVES) {
                    curveLine();
                } else if (sort == SUMS) {
                    sumLine();
                } else {
                    functionLine();
                }
            }
        }

        private void beginRow(int sort) {
            Arrays.fill(row, 0);
            if (sort == CURVES) {
                row[0] = 7;
                row[1] = 3;
                row[COEFFICIENTS_AT] = 1;
                row[COEFFICIENTS_AT + 3] = 1;
            }
        }

        private void curveLine() {
            if (isWord("prime")) {
                next();
                row[0] = primeNumber();
            } else if (isWord("curve")) {
                next();
                curveNumbers();
            } else {
                stop();
            }
            closeLine();
        }

        private void curveNumbers() {
            for (int i = 0; i < 4; i++) {
                row[COEFFICIENTS_AT + i] = numberTo(MOST_NUMBER);
            }
            boolean longer = kind == NUMBER;
            for (int i = 4; i < 6; i++) {
                row[COEFFICIENTS_AT + i] = longer ? numberTo(MOST_NUMBER) : 0;
            }
            row[1] = longer ? 5 : 3;
        }

        private void sumLine() {
            if (isWord("far")) {
                next();
                row[1] = signedTo(MOST_OFTEN_FAR);
            } else if (isWord("at")) {
                entryLine();
            } else {
                stop();
            }
            closeLine();
        }

        private void entryLine() {
            int entry = row[0];
            boolean fits = entry < MOST_ENTRIES;
            if (!fits) {
                note(3);
            }
            next();
            int x = numberTo(MOST_NUMBER);
            int y = numberTo(MOST_NUMBER);
            int often = signedTo(MOST_OFTEN);
            if (fits) {
                int at = ENTRIES_AT + ENTRY_WIDTH * entry;
                row[at] = x;
                row[at + 1] = y;
                row[at + 2] = often;
                row[0] = entry + 1;
            }
        }

        private void functionLine() {
            boolean y = isWord("y");
            if (!y && !isWord("x")) {
                stop();
                return;
            }
            next();
            int most = y ? MOST_POWER_B : MOST_POWER_A;
            int power = numberTo(most);
            int coefficient = numberTo(MOST_NUMBER);
            closeLine();
            if (power <= most) {
                row[y ? B_AT + power : power] = coefficient;
            }
        }

        private void closeLine() {
            if (kind == SEMICOLON) {
                next();
            } else {
                stop();
            }
        }

        private int primeNumber() {
            if (kind != NUMBER) {
                stop();
                return 0;
            }
            int value = value();
            boolean known = false;
            for (int prime : PRIMES) {
                known |= prime == value;
            }
            if (!known) {
                note(2);
            }
            next();
            return value;
        }

        private int numberTo(int most) {
            if (kind != NUMBER) {
                stop();
                return 0;
            }
            int value = value();
            if (value > most) {
                note(2);
            }
            next();
            return value;
        }

        private int signedTo(int most) {
            boolean minus = kind == MINUS;
            if (minus) {
                next();
            }
            int value = numberTo(most);
            return minus ? -value : value;
        }

        /** FAULT 1 goes before all others; behind it nothing more is read. */
        private void stop() {
            if (fault != 1) {
                fault = 1;
                faultPlace = start;
            }
            kind = WRONG;
        }

        /** The reader goes on by place, so the first one noted is the one to tell. */
        private void note(int which) {
            if (fault == 0) {
                fault = which;
                faultPlace = start;
            }
        }

        private void next() {
            if (fault == 1) {
                return;
            }
            while (position < length && (tape[position] == 10 || tape[position] == 32)) {
                position++;
            }
            start = position;
            if (position >= length) {
                kind = END;
            } else if (isLetter(tape[position])) {
                kind = WORD;
                while (position < length && isLetter(tape[position])) {
                    position++;
                }
            } else if (isDigit(tape[position])) {
                while (position < length && isDigit(tape[position])) {
                    position++;
                }
                kind = position - start <= 2 ? NUMBER : WRONG;
            } else {
                kind = tape[position] == '-' ? MINUS : tape[position] == ';' ? SEMICOLON : WRONG;
                position++;
            }
        }

        private int value() {
            int value = 0;
            for (int i = start; i < position && i < length; i++) {
                value = 10 * value + tape[i] - '0';
            }
            return value;
        }

        private boolean isWord(String word) {
            if (kind != WORD || position - start != word.length()) {
                return false;
            }
            for (int i = 0; i < word.length() && start + i < length; i++) {
                if (tape[start + i] != word.charAt(i)) {
                    return false;
                }
            }
            return true;
        }

        private static boolean isLetter(int sign) {
            return sign >= 'a' && sign <= 'z';
        }

        private static boolean isDigit(int sign) {
            return sign >= '0' && sign <= '9';
        }
    }

    /** The numbers below a prime. */
    private static final class Field {
        int p = 7;
        int nonSquare = 3;
        private final int[] inverses = new int[PRIME_ROOM];
        private final boolean[] squares = new boolean[PRIME_ROOM];

        boolean choose(int prime) {
            if (prime < 3 || prime > PRIME_ROOM) {
                return false;
            }
            p = prime;
            for (int a = 0; a < PRIME_ROOM; a++) {
                inverses[a] = 0;
                squares[a] = false;
            }
            for (int a = 0; a < p; a++) {
                squares[rem(a * a)] = true;
                for (int b = 0; b < p; b++) {
                    if (rem(a * b) == 1) {
                        inverses[a] = b;
                    }
                }
            }
            nonSquare = 0;
            for (int a = p - 1; a > 0; a--) {
                if (!squares[a]) {
                    nonSquare = a;
                }
            }
            return true;
        }

        int rem(int a) {
            if (p < 2) {
                return 0;
            }
            int rest = a % p;
            return rest < 0 ? rest + p : rest;
        }

        int inverse(int a) {
            return a < 0 || a >= PRIME_ROOM ? 0 : inverses[a];
        }

        boolean isSquare(int a) {
            return a >= 0 && a < PRIME_ROOM && squares[a];
        }
    }

    /** A polynomial of a small degree; degree NONE tells 0. */
    private static final class Poly {
        /* NORM's degree is the greatest that comes, 9. */
        private static final int WIDTH = 10;
        int degree = NONE;
        private final int[] parts = new int[WIDTH];

        int at(int i) {
            return i < 0 || i >= WIDTH ? 0 : parts[i];
        }

        void clear() {
            Arrays.fill(parts, 0);
            degree = NONE;
        }

        void put(int i, int part) {
            if (i < 0 || i >= WIDTH) {
                return;
            }
            parts[i] = part;
            settle(Math.max(degree, i));
        }

        void copy(Poly other) {
            System.arraycopy(other.parts, 0, parts, 0, WIDTH);
            degree = other.degree;
        }

        void take(int[] row, int from, int top, Field field) {
            clear();
            for (int i = 0; i <= top && i < WIDTH && from + i < row.length; i++) {
                parts[i] = field.rem(row[from + i]);
            }
            settle(top);
        }

        void slope(Field field, Poly of) {
            clear();
            for (int i = 1; i <= of.degree && i < WIDTH; i++) {
                parts[i - 1] = field.rem(i * of.parts[i]);
            }
            settle(of.degree);
        }

        void add(Field field, Poly other, int factor) {
            for (int i = 0; i <= other.degree && i < WIDTH; i++) {
                parts[i] = field.rem(parts[i] + factor * other.parts[i]);
            }
            settle(Math.max(degree, other.degree));
        }

        /** The product of two others: neither may be this one. */
        void product(Field field, Poly one, Poly two) {
            Arrays.fill(parts, 0);
            for (int i = 0; i <= one.degree; i++) {
                for (int j = 0; j <= two.degree && i + j < WIDTH; j++) {
                    parts[i + j] = field.rem(parts[i + j] + one.parts[i] * two.parts[j]);
                }
            }
            settle(one.degree + two.degree);
        }

        void scale(Field field, int factor) {
            for (int i = 0; i <= degree && i < WIDTH; i++) {
                parts[i] = field.rem(parts[i] * factor);
            }
            settle(degree);
        }

        /** This one becomes the rest; a divisor 0 leaves it as it is. */
        void divide(Field field, Poly by, Poly quotient) {
            Arrays.fill(quotient.parts, 0);
            quotient.degree = NONE;
            int below = by.degree;
            if (below < 0) {
                return;
            }
            int inverse = field.inverse(by.parts[below]);
            int top = degree;
            for (int i = top; i >= below; i--) {
                int factor = field.rem(parts[i] * inverse);
                quotient.parts[i - below] = factor;
                for (int j = 0; j <= below; j++) {
                    parts[i - below + j] = field.rem(parts[i - below + j] - factor * by.parts[j]);
                }
            }
            quotient.settle(top - below);
            settle(top);
        }

        boolean matches(Poly other) {
            boolean alike = degree == other.degree;
            for (int i = 0; i <= degree && alike; i++) {
                alike = parts[i] == other.parts[i];
            }
            return alike;
        }

        private void settle(int top) {
            degree = NONE;
            for (int i = top < WIDTH ? top : WIDTH - 1; i >= 0 && degree == NONE; i--) {
                if (parts[i] != 0) {
                    degree = i;
                }
            }
        }
    }

    /** The greatest common divisor of two polynomials, and how it is made of them. */
    private static final class Euclid {
        final Poly gcd = new Poly();
        final Poly first = new Poly();
        final Poly second = new Poly();
        private final Poly rest = new Poly();
        private final Poly nextFirst = new Poly();
        private final Poly nextSecond = new Poly();
        private final Poly quotient = new Poly();
        private final Poly scratch = new Poly();

        /** gcd = first * one + second * two, its greatest power with 1 (not both may be 0). */
        void run(Field field, Poly one, Poly two) {
            gcd.copy(one);
            rest.copy(two);
            first.clear();
            first.put(0, 1);
            second.clear();
            nextFirst.clear();
            nextSecond.clear();
            nextSecond.put(0, 1);
            for (int round = 0; round < 2 * Poly.WIDTH && rest.degree >= 0; round++) {
                gcd.divide(field, rest, quotient);
                scratch.copy(gcd);
                gcd.copy(rest);
                rest.copy(scratch);
                scratch.product(field, quotient, nextFirst);
                first.add(field, scratch, -1);
                scratch.copy(first);
                first.copy(nextFirst);
                nextFirst.copy(scratch);
                scratch.product(field, quotient, nextSecond);
                second.add(field, scratch, -1);
                scratch.copy(second);
                second.copy(nextSecond);
                nextSecond.copy(scratch);
            }
            if (gcd.degree >= 0) {
                int inverse = field.inverse(gcd.at(gcd.degree));
                gcd.scale(field, inverse);
                first.scale(field, inverse);
                second.scale(field, inverse);
            }
        }
    }

    /** A CURVE with its POINTS and COUNTS. */
    private static final class Curve {
        final Field field = new Field();
        final Poly f = new Poly();
        int genus;
        int points;
        final int[] xs = new int[POINT_ROOM];
        final int[] ys = new int[POINT_ROOM];
        final int[] share = new int[5];
        final long[] counts = new long[MOST_FIELD + 1];
        final long[] places = new long[MOST_FIELD + 1];
        private final long[] powerSums = new long[MOST_FIELD + 1];
        /* a, b, c of the latest CHANGE that was searched. */
        final int[] change = new int[3];
        private final int[] moved = new int[6];
        /* How a power of x, and that times y, begin at a POINT, told by their first terms. */
        final int[] plain = new int[ZERO_ROOM];
        final int[] withY = new int[ZERO_ROOM];
        private int terms;
        private int shift;
        private int beganAt;

        void load(int[] row) {
            field.choose(row[0]);
            f.take(row, COEFFICIENTS_AT, row[1], field);
            genus = f.degree > 3 ? 2 : 1;
            findPoints();
            findShare(genus == 1 ? 0 : pointsOfSquareField());
            findCounts();
            findPlaces();
        }

        boolean hasPoint(int k) {
            return k >= 0 && k < points;
        }

        boolean isFar(int k) {
            return k == points - 1;
        }

        boolean isFixed(int k) {
            return isFar(k) || ys[k] == 0;
        }

        int fixedPoints() {
            int fixed = 0;
            for (int k = 0; k < points; k++) {
                fixed += isFixed(k) ? 1 : 0;
            }
            return fixed;
        }

        int pointAt(int x, int y) {
            for (int k = 0; k < points; k++) {
                if (xs[k] == x && ys[k] == y) {
                    return k;
                }
            }
            return NONE;
        }

        boolean carries(int[] sumRow) {
            for (int i = 0; i < sumRow[0] && i < MOST_ENTRIES; i++) {
                int at = ENTRIES_AT + ENTRY_WIDTH * i;
                if (pointAt(sumRow[at], sumRow[at + 1]) == NONE) {
                    return false;
                }
            }
            return true;
        }

        /** SHARE where T is 1, or -1: the latter is that of the TWIST where T is 1. */
        int shareAt(int t) {
            int whole = 0;
            for (int i = 2 * genus; i >= 0; i--) {
                whole = whole * t + share[i];
            }
            return whole;
        }

        private void findPoints() {
            points = 0;
            for (int x = 0; x < field.p; x++) {
                int value = 0;
                for (int i = f.degree; i >= 0; i--) {
                    value = field.rem(value * x + f.at(i));
                }
                for (int y = 0; y < field.p && points < POINT_ROOM - 1; y++) {
                    if (field.rem(y * y) == value) {
                        xs[points] = x;
                        ys[points] = y;
                        points++;
                    }
                }
            }
            xs[points] = FAR_NUMBER;
            ys[points] = FAR_NUMBER;
            points++;
        }

        private void findShare(int countOfTwo) {
            int p = field.p;
            int a = points - p - 1;
            Arrays.fill(share, 0);
            share[0] = 1;
            share[1] = a;
            if (genus == 1) {
                share[2] = p;
            } else {
                share[2] = (countOfTwo - p * p - 1 + a * a) / 2;
                share[3] = p * a;
                share[4] = p * p;
            }
        }

        private int pointsOfSquareField() {
            int all = 1;
            for (int s = 0; s < field.p; s++) {
                for (int t = 0; t < field.p; t++) {
                    all += pointsOver(s, t);
                }
            }
            return all;
        }

        /** How many y there are over x = s + t * w, w * w being the least number that is no square. */
        private int pointsOver(int s, int t) {
            int d = field.nonSquare;
            int u = 0;
            int v = 0;
            for (int i = f.degree; i >= 0; i--) {
                int next = field.rem(u * s + d * field.rem(v * t) + f.at(i));
                v = field.rem(u * t + v * s);
                u = next;
            }
            if (u == 0 && v == 0) {
                return 1;
            }
            // A number of the greater field is a square there just if its norm is one below p.
            return field.isSquare(field.rem(u * u - d * field.rem(v * v))) ? 2 : 0;
        }

        private void findCounts() {
            long power = 1;
            for (int n = 1; n <= MOST_FIELD; n++) {
                long sum = n <= 2 * genus ? (long) n * share[n] : 0;
                for (int i = 1; i < n && i <= 2 * genus; i++) {
                    sum += share[i] * powerSums[n - i];
                }
                powerSums[n] = -sum;
                power *= field.p;
                counts[n] = power + 1 + sum;
            }
        }

        private void findPlaces() {
            for (int n = 1; n <= MOST_FIELD; n++) {
                long left = counts[n];
                for (int d = 1; d < n; d++) {
                    if (n % d == 0) {
                        left -= d * places[d];
                    }
                }
                places[n] = left / n;
            }
        }

        /** How many a, b, c there are with left(a x + b) = c c F(x); it ends behind the k-th, which stays in change. */
        int searchChange(Poly left, int k) {
            int found = 0;
            for (int a = 1; a < field.p; a++) {
                for (int b = 0; b < field.p; b++) {
                    move(left, a, b);
                    for (int c = 1; c < field.p; c++) {
                        if (!isMovedTo(field.rem(c * c))) {
                            continue;
                        }
                        found++;
                        if (found > k && k >= 0) {
                            change[0] = a;
                            change[1] = b;
                            change[2] = c;
                            return found;
                        }
                    }
                }
            }
            return found;
        }

        private void move(Poly left, int a, int b) {
            Arrays.fill(moved, 0);
            for (int i = left.degree; i >= 0; i--) {
                for (int j = moved.length - 1; j > 0; j--) {
                    moved[j] = field.rem(b * moved[j] + a * moved[j - 1]);
                }
                moved[0] = field.rem(b * moved[0] + left.at(i));
            }
        }

        private boolean isMovedTo(int factor) {
            for (int i = 0; i < moved.length; i++) {
                if (moved[i] != field.rem(factor * f.at(i))) {
                    return false;
                }
            }
            return true;
        }

        /** Begins with 1 and y at a POINT that is not FAR. */
        void beginAt(int k, int wanted) {
            terms = Math.max(0, Math.min(wanted, ZERO_ROOM));
            beganAt = xs[k];
            Arrays.fill(plain, 0);
            Arrays.fill(withY, 0);
            plain[0] = 1;
            if (isFixed(k)) {
                // x - X has ORDER 2 and y has 1: A stands at the even terms, B * y at the odd ones.
                shift = 2;
                withY[1] = 1;
            } else {
                shift = 1;
                takeRoot(ys[k]);
            }
        }

        /** Goes on to the next power of x. */
        void nextPower() {
            for (int i = terms - 1; i >= 0; i--) {
                int before = i - shift;
                plain[i] = field.rem(plain[i] * beganAt + (before >= 0 ? plain[before] : 0));
                withY[i] = field.rem(withY[i] * beganAt + (before >= 0 ? withY[before] : 0));
            }
        }

        /** y as a row in x - X, from y * y = F. */
        private void takeRoot(int y) {
            move(f, 1, beganAt);
            int half = field.inverse(field.rem(2 * y));
            withY[0] = y;
            for (int n = 1; n < terms; n++) {
                int left = n < moved.length ? moved[n] : 0;
                for (int i = 1; i < n; i++) {
                    left -= withY[i] * withY[n - i];
                }
                withY[n] = field.rem(field.rem(left) * half);
            }
        }
    }

    /** A FUNCTION on a CURVE: its ORDERS and its NORM. */
    private static final class Measured {
        /* NORM's degree is 9 at most, and no ORDER is greater. */
        private static final int TERMS = 10;
        final Poly norm = new Poly();
        private final Poly a = new Poly();
        private final Poly b = new Poly();
        private final Poly square = new Poly();
        private final Poly scratch = new Poly();
        private final int[] begins = new int[TERMS];

        void load(Curve curve, int[] row) {
            a.take(row, 0, MOST_POWER_A, curve.field);
            b.take(row, B_AT, MOST_POWER_B, curve.field);
            norm.product(curve.field, a, a);
            square.product(curve.field, b, b);
            scratch.product(curve.field, square, curve.f);
            norm.add(curve.field, scratch, -1);
        }

        int orderAt(Curve curve, int k) {
            if (curve.isFar(k)) {
                int ofA = a.degree < 0 ? 0 : 2 * a.degree;
                int ofB = b.degree < 0 ? 0 : 2 * b.degree + 2 * curve.genus + 1;
                return -Math.max(ofA, ofB);
            }
            Arrays.fill(begins, 0);
            curve.beginAt(k, TERMS);
            for (int i = 0; i <= MOST_POWER_A; i++) {
                for (int j = 0; j < TERMS; j++) {
                    begins[j] += a.at(i) * curve.plain[j] + b.at(i) * curve.withY[j];
                }
                curve.nextPower();
            }
            int order = 0;
            while (order < TERMS && curve.field.rem(begins[order]) == 0) {
                order++;
            }
            return order;
        }

        int rational(Curve curve) {
            int all = 0;
            for (int k = 0; k < curve.points - 1; k++) {
                all += orderAt(curve, k);
            }
            return all;
        }
    }

    /**
     * ROOM of a SUM. The columns of the matrix are the powers x and x * y by their poles at FAR, least first;
     * its lines are what A + B * y must meet at the POINTS. The columns without a pivot lead the BASE rows.
     */
    private static final class Room {
        private static final int LEADS = -1;
        private static final int MISSING = -2;
        int degree;
        int dimension;
        int poles;
        int underDegree;
        final int[] under = new int[ZERO_ROOM + 1];
        final boolean[] named = new boolean[PRIME_ROOM];
        private final int[] often = new int[POINT_ROOM];
        private final int[] depths = new int[PRIME_ROOM];
        private final int[][] lines = new int[ZERO_ROOM][POLE_ROOM];
        private int used;
        private final int[] pivots = new int[POLE_ROOM];
        private final int[] leads = new int[POLE_ROOM];

        void load(Curve curve, int[] row) {
            degree = Told.degreeOf(row);
            gather(curve, row);
            findDepths(curve);
            findUnder(curve.field);
            poles = Math.min(2 * underDegree + row[1], POLE_ROOM - 1);
            used = 0;
            for (int k = 0; k < curve.points - 1; k++) {
                int depth = depths[curve.xs[k]];
                ask(curve, k, (curve.isFixed(k) ? 2 * depth : depth) - often[k]);
            }
            solve(curve);
        }

        /** Of BASE row k the part of the power that has so many poles at FAR. */
        int coefficient(Field field, int k, int column) {
            if (k < 0 || k >= dimension || column < 0 || column > poles) {
                return 0;
            }
            int lead = leads[k];
            if (column >= lead) {
                return column == lead ? 1 : 0;
            }
            int line = pivots[column];
            return line < 0 ? 0 : field.rem(-lines[line][lead]);
        }

        private void gather(Curve curve, int[] row) {
            Arrays.fill(often, 0);
            for (int x = 0; x < PRIME_ROOM; x++) {
                named[x] = false;
            }
            for (int i = 0; i < row[0] && i < MOST_ENTRIES; i++) {
                int at = ENTRIES_AT + ENTRY_WIDTH * i;
                int k = curve.pointAt(row[at], row[at + 1]);
                if (k >= 0) {
                    often[k] += row[at + 2];
                    named[curve.xs[k]] = true;
                }
            }
        }

        private void findDepths(Curve curve) {
            Arrays.fill(depths, 0);
            for (int k = 0; k < curve.points - 1; k++) {
                int x = curve.xs[k];
                int depth = curve.isFixed(k) ? (often[k] + 1) / 2 : often[k];
                depths[x] = Math.max(depths[x], depth);
            }
        }

        private void findUnder(Field field) {
            Arrays.fill(under, 0);
            under[0] = 1;
            underDegree = 0;
            for (int x = 0; x < field.p; x++) {
                for (int n = 0; n < depths[x] && underDegree < ZERO_ROOM; n++) {
                    underDegree++;
                    for (int i = underDegree; i > 0; i--) {
                        under[i] = field.rem(under[i - 1] - x * under[i]);
                    }
                    under[0] = field.rem(-x * under[0]);
                }
            }
        }

        /** A + B * y must have so many zeros at POINT k. */
        private void ask(Curve curve, int k, int zeros) {
            int first = used;
            int last = Math.min(first + zeros, ZERO_ROOM);
            if (last <= first) {
                return;
            }
            curve.beginAt(k, last - first);
            for (int line = first; line < last; line++) {
                Arrays.fill(lines[line], 0);
            }
            for (int i = 0; 2 * i <= poles; i++) {
                int columnA = 2 * i;
                int columnB = 2 * i + 2 * curve.genus + 1;
                for (int line = first; line < last; line++) {
                    lines[line][columnA] = curve.plain[line - first];
                    if (columnB <= poles) {
                        lines[line][columnB] = curve.withY[line - first];
                    }
                }
                curve.nextPower();
            }
            used = last;
        }

        private void solve(Curve curve) {
            dimension = 0;
            int rank = 0;
            for (int column = 0; column <= poles; column++) {
                if (column % 2 == 1 && column < 2 * curve.genus + 1) {
                    pivots[column] = MISSING;
                } else if (bringUp(column, rank)) {
                    pivots[column] = rank;
                    clearColumn(curve.field, column, rank);
                    rank++;
                } else {
                    pivots[column] = LEADS;
                    leads[dimension] = column;
                    dimension++;
                }
            }
        }

        /** A line from this one on that has the column is put here. */
        private boolean bringUp(int column, int rank) {
            for (int line = rank; line < used; line++) {
                if (lines[line][column] != 0) {
                    int[] found = lines[line];
                    lines[line] = lines[rank];
                    lines[rank] = found;
                    return true;
                }
            }
            return false;
        }

        private void clearColumn(Field field, int column, int rank) {
            int[] pivot = lines[rank];
            int inverse = field.inverse(pivot[column]);
            for (int i = column; i <= poles; i++) {
                pivot[i] = field.rem(pivot[i] * inverse);
            }
            for (int line = 0; line < used; line++) {
                int factor = lines[line][column];
                if (line != rank && factor != 0) {
                    for (int i = column; i <= poles; i++) {
                        lines[line][i] = field.rem(lines[line][i] - factor * pivot[i]);
                    }
                }
            }
        }
    }

    /** CODE of a SUM. */
    private static final class Code {
        int length;
        int rank;
        /* How many rows CODE has; NONE if they are more than are gone through. */
        int size;
        int fewest;
        int nearest;
        final int[] weigh = new int[PLACE_ROOM + 1];
        final int[] sentRow = new int[PLACE_ROOM];
        private boolean weighed;
        private int dimension;
        private final int[] pointOf = new int[PLACE_ROOM];
        private final int[][] values = new int[BASE_ROOM][PLACE_ROOM];
        private final int[][] powers = new int[PLACE_ROOM][POLE_ROOM];
        private final int[][] basis = new int[PLACE_ROOM][PLACE_ROOM];
        private final int[] leads = new int[PLACE_ROOM];
        private final int[] drawn = new int[PLACE_ROOM];
        private final int[] word = new int[PLACE_ROOM];
        private final int[] figures = new int[PLACE_ROOM];

        void load(Curve curve, Room room) {
            weighed = false;
            dimension = Math.min(room.dimension, BASE_ROOM);
            length = 0;
            for (int k = 0; k < curve.points - 1 && length < PLACE_ROOM; k++) {
                if (!room.named[curve.xs[k]]) {
                    pointOf[length] = k;
                    length++;
                }
            }
            for (int place = 0; place < length; place++) {
                takePowers(curve, room, place);
            }
            for (int k = 0; k < dimension; k++) {
                takeValues(curve.field, room, k);
            }
            findBasis(curve.field);
            size = 1;
            for (int i = 0; i < rank && size != NONE; i++) {
                size *= curve.field.p;
                size = size > MOST_WORDS ? NONE : size;
            }
        }

        /** SENT of m into sentRow. */
        void send(Field field, int m) {
            Arrays.fill(sentRow, 0);
            int left = m;
            for (int k = 0; k < dimension && left > 0; k++) {
                int figure = field.rem(left);
                left = field.p < 2 ? 0 : left / field.p;
                for (int i = 0; i < length; i++) {
                    sentRow[i] = field.rem(sentRow[i] + figure * values[k][i]);
                }
            }
        }

        /** What is SENT, with ERRORS. */
        void disturb(Field field, int errors, int seed) {
            System.arraycopy(sentRow, 0, drawn, 0, PLACE_ROOM);
            int x = seed;
            for (int n = 0; n < errors && length > 0; n++) {
                x = drawNext(x);
                int place = (x >>> 16) % length;
                x = drawNext(x);
                int more = field.p < 2 ? 0 : (x >>> 16) % (field.p - 1) + 1;
                drawn[place] = field.rem(drawn[place] + more);
            }
        }

        void mend(Field field) {
            fewest = length + 1;
            nearest = 0;
            beginWords();
            for (int n = 0; n < size; n++) {
                int unlike = unlikePlaces(word);
                if (unlike < fewest) {
                    fewest = unlike;
                    nearest = 0;
                }
                if (unlike == fewest) {
                    nearest++;
                }
                nextWord(field);
            }
        }

        boolean isSentNearest() {
            return unlikePlaces(sentRow) == fewest;
        }

        void weighAll(Field field) {
            if (weighed) {
                return;
            }
            Arrays.fill(weigh, 0);
            beginWords();
            for (int n = 0; n < size; n++) {
                int weight = 0;
                for (int i = 0; i < length; i++) {
                    weight += word[i] == 0 ? 0 : 1;
                }
                weigh[weight]++;
                nextWord(field);
            }
            weighed = true;
        }

        int least() {
            for (int w = 1; w <= length; w++) {
                if (weigh[w] > 0) {
                    return w;
                }
            }
            return 0;
        }

        private static int drawNext(int x) {
            return x * 1103515245 + 12345;
        }

        private int unlikePlaces(int[] row) {
            int unlike = 0;
            for (int i = 0; i < length; i++) {
                unlike += row[i] == drawn[i] ? 0 : 1;
            }
            return unlike;
        }

        private void beginWords() {
            Arrays.fill(word, 0);
            Arrays.fill(figures, 0);
        }

        /** Counts up by figures: a basis row that has come p times has gone again. */
        private void nextWord(Field field) {
            boolean carry = true;
            for (int j = 0; j < rank && carry; j++) {
                for (int i = 0; i < length; i++) {
                    int value = word[i] + basis[j][i];
                    word[i] = value >= field.p ? value - field.p : value;
                }
                figures[j]++;
                carry = figures[j] >= field.p;
                figures[j] = carry ? 0 : figures[j];
            }
        }

        /** The values of all powers x and x * y, by E, at one place. */
        private void takePowers(Curve curve, Room room, int place) {
            Field field = curve.field;
            int x = curve.xs[pointOf[place]];
            int y = curve.ys[pointOf[place]];
            int under = 0;
            for (int i = room.underDegree; i >= 0; i--) {
                under = field.rem(under * x + room.under[i]);
            }
            int power = field.inverse(under);
            int[] here = powers[place];
            Arrays.fill(here, 0);
            for (int i = 0; 2 * i <= room.poles; i++) {
                here[2 * i] = power;
                int columnB = 2 * i + 2 * curve.genus + 1;
                if (columnB <= room.poles) {
                    here[columnB] = field.rem(power * y);
                }
                power = field.rem(power * x);
            }
        }

        /** The values of one BASE row at all places. */
        private void takeValues(Field field, Room room, int k) {
            int[] row = values[k];
            Arrays.fill(row, 0);
            for (int column = 0; column <= room.poles; column++) {
                int coefficient = room.coefficient(field, k, column);
                for (int place = 0; place < length && coefficient != 0; place++) {
                    row[place] += coefficient * powers[place][column];
                }
            }
            for (int place = 0; place < length; place++) {
                row[place] = field.rem(row[place]);
            }
        }

        /** Rows of CODE of which none is made of the others: BASE rows can be alike at all places. */
        private void findBasis(Field field) {
            rank = 0;
            for (int k = 0; k < dimension && rank < length; k++) {
                int[] row = basis[rank];
                System.arraycopy(values[k], 0, row, 0, PLACE_ROOM);
                for (int j = 0; j < rank; j++) {
                    addRow(field, row, basis[j], -row[leads[j]]);
                }
                int lead = 0;
                while (lead < length && row[lead] == 0) {
                    lead++;
                }
                if (lead < length) {
                    addRow(field, row, row, field.inverse(row[lead]) - 1);
                    leads[rank] = lead;
                    rank++;
                }
            }
        }

        private void addRow(Field field, int[] row, int[] other, int factor) {
            for (int i = 0; i < length; i++) {
                row[i] = field.rem(row[i] + factor * other[i]);
            }
        }
    }

    /** A CLASS, told by U and V. */
    private static final class Pair {
        final Poly u = new Poly();
        final Poly v = new Poly();

        void nothing() {
            u.clear();
            u.put(0, 1);
            v.clear();
        }

        void place(Field field, int x, int y) {
            u.clear();
            u.put(1, 1);
            u.put(0, field.rem(-x));
            v.clear();
            v.put(0, field.rem(y));
        }

        void copy(Pair other) {
            u.copy(other.u);
            v.copy(other.v);
        }

        boolean isNothing() {
            return u.degree <= 0;
        }

        boolean matches(Pair other) {
            return u.matches(other.u) && v.matches(other.v);
        }

        int part(int what) {
            return what < 3 ? u.at(what) : v.at(what - 3);
        }
    }

    /** CLASSES of a CURVE: added, multiplied, and all of them listed with their ORDERS. */
    private static final class Classes {
        boolean listed;
        private Field field = new Field();
        private Poly f = new Poly();
        private int genus = 1;
        private final Euclid euclid = new Euclid();
        private final Poly common = new Poly();
        private final Poly fromOne = new Poly();
        private final Poly fromTwo = new Poly();
        private final Poly scratch = new Poly();
        private final Poly product = new Poly();
        private final Poly quotient = new Poly();
        private final Pair made = new Pair();
        private final Pair step = new Pair();
        private final Pair walker = new Pair();
        private int size;
        private final int[] keys = new int[CLASS_ROOM];
        private final int[] orders = new int[CLASS_ROOM];
        private final int[] trail = new int[CLASS_ROOM];

        void begin(Curve curve) {
            field = curve.field;
            f = curve.f;
            genus = curve.genus;
            listed = false;
        }

        void ofSum(int[] row, Pair out) {
            out.nothing();
            if (row == null) {
                return;
            }
            for (int i = 0; i < row[0] && i < MOST_ENTRIES; i++) {
                int at = ENTRIES_AT + ENTRY_WIDTH * i;
                int often = row[at + 2];
                step.place(field, row[at], often < 0 ? -row[at + 1] : row[at + 1]);
                for (int n = Math.min(Math.abs(often), MOST_OFTEN); n > 0; n--) {
                    plus(out, step, out);
                }
            }
        }

        void multiply(Pair one, int n, Pair out) {
            step.copy(one);
            if (n < 0) {
                step.v.scale(field, -1);
            }
            int left = Math.min(Math.abs(n), MOST_TIMES);
            out.nothing();
            for (int bit = 6; bit >= 0; bit--) {
                plus(out, out, out);
                if ((left >> bit & 1) == 1) {
                    plus(out, step, out);
                }
            }
        }

        int orderOfClass(Pair one, int most) {
            walker.copy(one);
            int n = 1;
            while (n < most && !walker.isNothing()) {
                plus(walker, one, walker);
                n++;
            }
            return n;
        }

        int logOf(Pair one, Pair two, int most) {
            walker.nothing();
            for (int n = 0; n < most; n++) {
                if (walker.matches(two)) {
                    return n;
                }
                plus(walker, one, walker);
            }
            return NONE;
        }

        /** The sum of two CLASSES; out may be one of them. */
        void plus(Pair one, Pair two, Pair out) {
            compose(one, two);
            for (int round = 0; round < 4 && made.u.degree > genus; round++) {
                scratch.product(field, made.v, made.v);
                product.copy(f);
                product.add(field, scratch, -1);
                product.divide(field, made.u, quotient);
                made.u.copy(quotient);
                made.v.scale(field, -1);
                made.v.divide(field, made.u, quotient);
            }
            made.u.scale(field, field.inverse(made.u.at(made.u.degree)));
            out.copy(made);
        }

        /** Both together as U, V whose U may be of too great a degree. */
        private void compose(Pair one, Pair two) {
            euclid.run(field, one.u, two.u);
            common.copy(euclid.gcd);
            fromOne.copy(euclid.first);
            fromTwo.copy(euclid.second);
            scratch.copy(one.v);
            scratch.add(field, two.v, 1);
            euclid.run(field, common, scratch);

            made.v.product(field, one.v, two.v);
            made.v.add(field, f, 1);
            product.product(field, made.v, euclid.second);
            made.v.copy(product);
            addShare(fromOne, one.u, two.v);
            addShare(fromTwo, two.u, one.v);
            made.v.divide(field, euclid.gcd, quotient);
            made.v.copy(quotient);

            made.u.product(field, one.u, two.u);
            for (int twice = 0; twice < 2; twice++) {
                made.u.divide(field, euclid.gcd, quotient);
                made.u.copy(quotient);
            }
            made.v.divide(field, made.u, quotient);
        }

        private void addShare(Poly factor, Poly u, Poly v) {
            scratch.product(field, factor, euclid.first);
            product.product(field, scratch, u);
            scratch.product(field, product, v);
            made.v.add(field, scratch, 1);
        }

        int greatestOrder() {
            int greatest = 1;
            for (int i = 0; i < size; i++) {
                greatest = Math.max(greatest, orders[i]);
            }
            return greatest;
        }

        int killedBy(int d) {
            int killed = 0;
            for (int i = 0; i < size; i++) {
                killed += orders[i] > 0 && d % orders[i] == 0 ? 1 : 0;
            }
            return killed;
        }

        /** All U, V, by their keys, and the ORDER of each. */
        void list(Curve curve) {
            size = 0;
            keep(0);
            for (int u = 0; u < field.p; u++) {
                for (int v = 0; v < field.p; v++) {
                    if (curve.pointAt(field.rem(-u), v) >= 0) {
                        keep(1 + u * field.p + v);
                    }
                }
            }
            if (genus == 2) {
                listGreater();
            }
            Arrays.fill(orders, 0);
            for (int i = 0; i < size; i++) {
                if (orders[i] == 0) {
                    walkFrom(i);
                }
            }
            listed = true;
        }

        /** For each U of degree 2 the V whose square is F, where x * x = -u0 - u1 * x. */
        private void listGreater() {
            int p = field.p;
            made.u.clear();
            made.u.put(2, 1);
            for (int u0 = 0; u0 < p; u0++) {
                for (int u1 = 0; u1 < p; u1++) {
                    made.u.put(1, u1);
                    made.u.put(0, u0);
                    scratch.copy(f);
                    scratch.divide(field, made.u, quotient);
                    keepRoots(u0, u1, scratch.at(0), scratch.at(1));
                }
            }
        }

        /** V * V = f0 + f1 * x: if v1 is not 0, the part of x tells v0. */
        private void keepRoots(int u0, int u1, int f0, int f1) {
            int p = field.p;
            int firstKey = 1 + p * p + (u0 * p + u1) * p * p;
            for (int v0 = 0; v0 < p && f1 == 0; v0++) {
                if (field.rem(v0 * v0) == f0) {
                    keep(firstKey + v0);
                }
            }
            for (int v1 = 1; v1 < p; v1++) {
                int square = field.rem(v1 * v1);
                int v0 = field.rem((f1 + square * u1) * field.inverse(field.rem(2 * v1)));
                if (field.rem(v0 * v0 - square * u0) == f0) {
                    keep(firstKey + v1 * p + v0);
                }
            }
        }

        private void keep(int key) {
            if (size < CLASS_ROOM) {
                keys[size] = key;
                size++;
            }
        }

        /** The multiples of one CLASS tell the ORDERS of all of them. */
        private void walkFrom(int i) {
            takeKey(keys[i], step);
            walker.nothing();
            int n = 0;
            do {
                trail[n] = indexOfKey(keyOf(walker));
                plus(walker, step, walker);
                n++;
            } while (n < size && !walker.isNothing());
            for (int k = 0; k < n; k++) {
                if (trail[k] >= 0) {
                    orders[trail[k]] = n / commonDivisor(n, k);
                }
            }
        }

        private void takeKey(int key, Pair out) {
            int p = field.p;
            int square = p * p;
            out.nothing();
            if (key < 1 || p < 2) {
                return;
            }
            int left = key - 1;
            if (left < square) {
                out.place(field, -(left / p), left % p);
                return;
            }
            left -= square;
            out.u.put(2, 1);
            out.u.put(1, left / square % p);
            out.u.put(0, left / square / p);
            out.v.put(1, left % square / p);
            out.v.put(0, left % p);
        }

        private int keyOf(Pair pair) {
            int p = field.p;
            if (pair.u.degree <= 0) {
                return 0;
            }
            if (pair.u.degree == 1) {
                return 1 + pair.u.at(0) * p + pair.v.at(0);
            }
            int u = pair.u.at(0) * p + pair.u.at(1);
            return 1 + p * p + u * p * p + pair.v.at(1) * p + pair.v.at(0);
        }

        /** The keys were kept in their order. */
        private int indexOfKey(int key) {
            int low = 0;
            int high = size - 1;
            for (int round = 0; round < size && low <= high; round++) {
                int middle = (low + high) / 2;
                if (keys[middle] == key) {
                    return middle;
                }
                if (keys[middle] < key) {
                    low = middle + 1;
                } else {
                    high = middle - 1;
                }
            }
            return NONE;
        }

        private static int commonDivisor(int one, int two) {
            int a = one;
            int b = two;
            for (int round = 0; round < CLASS_ROOM && b > 0; round++) {
                int rest = a % b;
                a = b;
                b = rest;
            }
            return Math.max(a, 1);
        }
    }
}
