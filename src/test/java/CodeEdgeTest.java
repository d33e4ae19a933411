/** The boundary cases of promises 28 to 30, and of what "Terms" say there, a test for each sentence. */
public final class CodeEdgeTest {
    private static final Due DUE = new Due();
    /** y * y = x * x * x + 1 below 7: X 0, 0, 1, 1, 2, 2, 3, 4, 4, 5, 6 of the POINTS but FAR. */
    private static final String SEVEN = "";
    private static final int[] XS = {0, 0, 1, 1, 2, 2, 3, 4, 4, 5, 6};
    private static final int[] YS = {1, 6, 3, 4, 3, 4, 0, 3, 4, 0, 0};
    private static final String GENUS_2 = "prime 3; curve 1 2 0 0 0 1;";
    private static final String FAR_ALONE = "prime 3; curve 2 2 0 1;";
    private static final String FIVE_ROOTS = "prime 5; curve 0 4 0 0 0 1;";
    private static final int[] NO_CURVES = {2, -1, Integer.MIN_VALUE, Integer.MAX_VALUE};
    private static final int[] NO_SUMS = {3, -1, Integer.MIN_VALUE, Integer.MAX_VALUE};

    public static void main(String[] args) {
        lengths();
        dims();
        leasts();
        weighs();
        mostWords();
        moreWords();
        noPlaces();
        allAllZero();
        codeNone();
        sentFigures();
        sentFar();
        sentOfTheGreatest();
        mostPlaces();
        sentNone();
        withoutErrors();
        withErrors();
        onePlace();
        tooFarGone();
        seeds();
        mendedNone();
        DUE.end();
    }

    private static CurveShares on(String curve, String sum) {
        CurveShares x = Due.on(curve);
        if (Due.tell(x, 1, -1, sum) != 0) {
            throw new IllegalStateException("no sum: " + sum);
        }
        return x;
    }

    private static void code(String curve, String sum, int length, int dim, int least) {
        CurveShares x = on(curve, sum);
        DUE.same("LENGTH of " + sum, x.code(0, 0, 0), length);
        DUE.same("DIM of " + sum, x.code(0, 0, 1), dim);
        DUE.same("LEAST of " + sum, x.code(0, 0, 2), least);
    }

    /** "Its values at all POINTS whose X is no ENTRY's and that are not FAR: LENGTH." */
    private static void lengths() {
        code(SEVEN, "", 11, 1, 11);
        code(SEVEN, "far 1;", 11, 1, 11);
        code(SEVEN, "at 3 0 0;", 10, 1, 10);
        code(SEVEN, "at 0 1 0;", 9, 1, 9);
        code(SEVEN, "at 0 1 1; at 0 1 -1;", 9, 1, 9);
        code(SEVEN, "at 0 1 0; at 0 6 0;", 9, 1, 9);
        code(SEVEN, "at 0 1 0; at 1 3 0; at 2 4 0; at 4 4 0;", 3, 1, 3);
        code(SEVEN, "at 3 0 0; at 5 0 0; at 6 0 0;", 8, 1, 8);
        code("prime 13; curve 0 1 0 0 0 1;", "", 13, 1, 13);
        code(FIVE_ROOTS, "at 0 0 0; at 1 0 0; at 2 0 0; at 3 0 0;", 1, 1, 1);
    }

    /** "DIM: how many numbers tell one": no more than LENGTH, though ROOM is more. */
    private static void dims() {
        code(SEVEN, "far 4;", 11, 4, 7);
        code(SEVEN, "at 0 1 0; at 1 3 0; at 2 4 0; at 4 4 0; far 2;", 3, 2, 2);
        // At (3, 0), (5, 0), (6, 0) y is 0: 1, x and y are told apart by two numbers.
        code(SEVEN, "at 0 1 0; at 1 3 0; at 2 4 0; at 4 4 0; far 3;", 3, 2, 2);
        code(SEVEN, "at 0 1 0; at 1 3 0; at 2 4 0; at 4 4 0; far 4;", 3, 3, 1);
        code(GENUS_2, "far 9;", 6, 6, 1);
        DUE.same("ROOM is more", on(GENUS_2, "far 9;").room(0, 0, 1), 8);
        // From far 6 on, x * x * x - x is in ROOM, and 0 at all POINTS.
        int[] dims = {1, 1, 2, 2, 3, 4, 4, 5, 5, 6};
        for (int n = 0; n <= 9; n++) {
            DUE.same("DIM of far " + n, on(GENUS_2, "far " + n + ";").code(0, 0, 1), dims[n]);
        }
    }

    /** "LEAST: the fewest values that are not 0, of one that is not all 0." */
    private static void leasts() {
        code(SEVEN, "far 2;", 11, 2, 9);
        code(SEVEN, "far 3;", 11, 3, 8);
        code(SEVEN, "at 0 1 -1; far 2;", 9, 1, 9);
        code(SEVEN, "far 2; at 1 3 -1;", 9, 1, 9);
        code(SEVEN, "at 3 0 -1; far 2;", 10, 1, 10);
    }

    /** "WEIGH of w: how many of CODE have w values that are not 0", w 0 .. LENGTH. */
    private static void weighs() {
        // A number and a number by x: 0 at both POINTS of an X, at a FIXED one, or nowhere.
        CurveShares x = on(SEVEN, "far 2;");
        int[] due = {1, 0, 0, 0, 0, 0, 0, 0, 0, 24, 18, 6};
        for (int w = 0; w <= 11; w++) {
            DUE.same("WEIGH of " + w, x.code(0, 0, 100 + w), due[w]);
        }
        DUE.same("WEIGH of 12", x.code(0, 0, 112), -1);
        DUE.same("WEIGH of -1", x.code(0, 0, 99), -1);
        CurveShares y = on(GENUS_2, "far 9;");
        int[] all = {1, 12, 60, 160, 240, 192, 64};
        for (int w = 0; w <= 6; w++) {
            DUE.same("WEIGH of all rows " + w, y.code(0, 0, 100 + w), all[w]);
        }
        DUE.same("WEIGH of 7", y.code(0, 0, 107), -1);
    }

    private static final String[] PRIMES = {"prime 5; curve 1 1 0 1;", "", "prime 11; curve 0 1 0 1;", "prime 13; curve 0 1 0 1;"};
    private static final int[] LAST_DIMS = {4, 4, 3, 3};

    /** "p to the DIM is 2500 at most": 625, 2401, 1331, 2197, and 729 of 3. */
    private static void mostWords() {
        int[] words = {625, 2401, 1331, 2197};
        for (int i = 0; i < 4; i++) {
            CurveShares x = on(PRIMES[i], "far " + LAST_DIMS[i] + ";");
            DUE.same("DIM " + PRIMES[i], x.code(0, 0, 1), LAST_DIMS[i]);
            int all = 0;
            for (int w = 0; w <= x.code(0, 0, 0); w++) {
                all += x.code(0, 0, 100 + w);
            }
            DUE.same("all WEIGHS " + PRIMES[i], all, words[i]);
            DUE.same("LEAST " + PRIMES[i], x.code(0, 0, 2) > 0, true);
            DUE.same("MENDED " + PRIMES[i], x.mended(0, 0, 1, 0, 0, 0), 0);
        }
    }

    /** "NONE: p to the DIM is more (2, 100 ..)"; what 0 and 1, and SENT, are told all the same. */
    private static void moreWords() {
        for (int i = 0; i < 4; i++) {
            CurveShares x = on(PRIMES[i], "far " + (LAST_DIMS[i] + 1) + ";");
            DUE.same("DIM " + PRIMES[i], x.code(0, 0, 1), LAST_DIMS[i] + 1);
            DUE.same("LENGTH " + PRIMES[i], x.code(0, 0, 0), x.curve(0, 3) - 1);
            DUE.same("LEAST " + PRIMES[i], x.code(0, 0, 2), -1);
            for (int w = 0; w <= x.code(0, 0, 0) + 1; w++) {
                DUE.same("WEIGH " + w + " " + PRIMES[i], x.code(0, 0, 100 + w), -1);
            }
            for (int what = 0; what < 3; what++) {
                DUE.same("MENDED " + PRIMES[i], x.mended(0, 0, 1, 0, 0, what), -1);
            }
            DUE.same("SENT " + PRIMES[i], x.sent(0, 0, 1, 0), 1);
        }
    }

    /** LENGTH 0: CODE is the row of none; "LEAST (0 if all are all 0)"; MENDED: "NONE: LENGTH is 0". */
    private static void noPlaces() {
        String[][] told = {{FAR_ALONE, ""}, {FAR_ALONE, "far 9;"}, {GENUS_2, "at 0 1 1; at 1 1 0; at 2 2 -1; far 5;"},
            {FIVE_ROOTS, "at 0 0 0; at 1 0 0; at 2 0 0; at 3 0 0; at 4 0 0;"}};
        for (String[] one : told) {
            CurveShares x = on(one[0], one[1]);
            code(one[0], one[1], 0, 0, 0);
            DUE.same("WEIGH of 0", x.code(0, 0, 100), 1);
            DUE.same("WEIGH of 1", x.code(0, 0, 101), -1);
            DUE.same("SENT", x.sent(0, 0, 0, 0), -1);
            for (int what = 0; what < 3; what++) {
                DUE.same("MENDED", x.mended(0, 0, 0, 0, 0, what), -1);
                DUE.same("MENDED", x.mended(0, 0, 1, 9, 1, what), -1);
            }
        }
    }

    /** "LEAST (0 if all are all 0)": an empty ROOM has the FUNCTION 0. */
    private static void allAllZero() {
        code(SEVEN, "far -1;", 11, 0, 0);
        CurveShares x = on(SEVEN, "far -1;");
        for (int w = 0; w <= 12; w++) {
            DUE.same("WEIGH of " + w, x.code(0, 0, 100 + w), w == 0 ? 1 : w == 12 ? -1 : 0);
        }
        for (int i = 0; i <= 11; i++) {
            DUE.same("SENT " + i, x.sent(0, 0, 99, i), i == 11 ? -1 : 0);
        }
        DUE.same("MENDED, no ERRORS", x.mended(0, 0, 99, 0, 5, 0), 0);
        DUE.same("MENDED, 1 ERROR", x.mended(0, 0, 99, 1, 5, 0), 1);
        DUE.same("MENDED, how many", x.mended(0, 0, 99, 1, 5, 1), 1);
        DUE.same("MENDED, SENT among them", x.mended(0, 0, 99, 1, 5, 2), 1);
        // In the last one ROOM is told by y alone, which is 0 at (6, 0), the only place.
        code(SEVEN, "at 0 1 0; at 1 3 0; at 2 4 0; at 4 4 0; at 3 0 -1; far 3;", 2, 1, 2);
        code(SEVEN, "at 0 1 0; at 1 3 0; at 2 4 0; at 4 4 0; at 3 0 -2; at 5 0 -1; far 5;", 1, 1, 1);
        code(SEVEN, "at 0 1 0; at 1 3 0; at 2 4 0; at 4 4 0; at 3 0 -1; at 5 0 -1; far 3;", 1, 0, 0);
    }

    /** "NONE: as room(), or for another what." */
    private static void codeNone() {
        for (int what : new int[] {-1, 3, 4, 50, 98, 99, 111, 112, 200, Integer.MIN_VALUE, Integer.MAX_VALUE}) {
            Seen.refused(DUE, "code(0, 0, " + what + ")", x -> x.code(0, 0, what), -1);
        }
        DUE.same("code(0, 0, 110)", Seen.sample().code(0, 0, 110) >= 0, true);
        for (int what : new int[] {0, 1, 2, 100}) {
            Seen.refused(DUE, "it FITS not, code what " + what, x -> x.code(0, 2, what), -1);
            for (int sum : NO_SUMS) {
                Seen.refused(DUE, "code(0, " + sum + ", " + what + ")", x -> x.code(0, sum, what), -1);
            }
            for (int curve : NO_CURVES) {
                Seen.refused(DUE, "code(" + curve + ", 1, " + what + ")", x -> x.code(curve, 1, what), -1);
            }
        }
    }

    /** "The row that has BASE rows as often as the figures of m by p tell, the first one's the lowest." */
    private static void sentFigures() {
        CurveShares x = on(SEVEN, "far 3;");
        for (int m : new int[] {0, 1, 6, 7, 8, 48, 49, 50, 56, 57, 341, 342}) {
            for (int i = 0; i < 11; i++) {
                int due = (m % 7 + m / 7 % 7 * XS[i] + m / 49 * YS[i]) % 7;
                DUE.same("SENT of " + m + " at " + i, x.sent(0, 0, m, i), due);
            }
        }
        // By E: 1 and, of (3, 0) twice, 1 by x - 3.
        CurveShares y = on(SEVEN, "at 3 0 2;");
        int at = 0;
        for (int i = 0; i < 11; i++) {
            if (XS[i] != 3) {
                int one = (y.sent(0, 0, 1, at) * (XS[i] + 4)) % 7;
                int other = (y.sent(0, 0, 7, at) * (XS[i] + 4)) % 7;
                DUE.same("1 by x - 3 at " + at, one, 1);
                DUE.same("x by x - 3 at " + at, other, XS[i]);
                at++;
            }
        }
        DUE.same("behind the last", y.sent(0, 0, 1, 10), -1);
    }

    /** Figures behind the last BASE row's tell of no row. */
    private static void sentFar() {
        CurveShares x = on(SEVEN, "far 3;");
        for (int i = 0; i < 11; i++) {
            DUE.same("SENT of 343", x.sent(0, 0, 343, i), 0);
            DUE.same("SENT of 344", x.sent(0, 0, 344, i), 1);
            DUE.same("SENT of the greatest", x.sent(0, 0, Integer.MAX_VALUE, i), x.sent(0, 0, Integer.MAX_VALUE % 343, i));
        }
        CurveShares y = on("prime 3; curve 1 2 0 1;", "far 9;");
        DUE.same("the first figure of the greatest", y.sent(0, 0, Integer.MAX_VALUE, 0) >= 0, true);
        CurveShares z = on("prime 13; curve 0 1 0 1;", "at 0 0 5; far 9;");
        DUE.same("the last figure of the greatest", z.sent(0, 0, Integer.MAX_VALUE, 0) >= 0, true);
    }

    /** The greatest ROOM and E: SENT of p to the k is BASE row k, by E. */
    private static void sentOfTheGreatest() {
        String[] curves = {"prime 13; curve 0 1 0 10 0 1;", "prime 3; curve 1 2 0 0 0 1;", "prime 5; curve 1 1 0 1;"};
        String[] sums = {"at 7 " + Due.on(curves[0]).point(0, 13, 1) + " 5;", "at 0 1 5;", "at 0 1 5;"};
        for (int i = 0; i < 3; i++) {
            int m = 1;
            int p = Due.on(curves[i]).curve(0, 0);
            for (int k = 0; k < 8; k++) {
                sentOfRow(on(curves[i], sums[i].repeat(8) + "far 9;"), k, m);
                m *= p;
            }
        }
    }

    private static void sentOfRow(CurveShares x, int k, int m) {
        int p = x.curve(0, 0);
        DUE.same("E's degree", x.room(0, 0, 3), 40);
        int[] a = new int[45];
        int[] b = new int[45];
        int[] under = new int[41];
        for (int i = 0; i < 45; i++) {
            a[i] = x.base(0, 0, k, false, i);
            b[i] = Math.max(0, x.base(0, 0, k, true, i));
        }
        for (int i = 0; i <= 40; i++) {
            under[i] = x.under(0, 0, i);
        }
        int at = 0;
        for (int point = 0; point < x.curve(0, 3) - 1; point++) {
            int here = x.point(0, point, 0);
            Naive naive = new Naive(p, new int[4]);
            int below = naive.value(under, here);
            if (below != 0) {
                int above = (naive.value(a, here) + naive.value(b, here) * x.point(0, point, 1)) % p;
                DUE.same("row " + k + " at " + at + " below " + p, x.sent(0, 0, m, at) * below % p, above);
                at++;
            }
        }
        DUE.same("LENGTH below " + p, x.code(0, 0, 0), at);
        DUE.same("no more of row " + k, x.sent(0, 0, m, at), -1);
    }

    /** The greatest LENGTH: 25. */
    private static void mostPlaces() {
        code("prime 13; curve 0 1 0 10 0 1;", "", 25, 1, 25);
        CurveShares x = on("prime 13; curve 0 1 0 10 0 1;", "far 2;");
        DUE.same("LEAST of numbers and numbers by x", x.code(0, 0, 2), 23);
        DUE.same("WEIGH of 23", x.code(0, 0, 123), 12 * 12);
        DUE.same("WEIGH of 24", x.code(0, 0, 124), 12);
        DUE.same("WEIGH of 25", x.code(0, 0, 125), 12);
        DUE.same("WEIGH of 26", x.code(0, 0, 126), -1);
        for (int i = 0; i < 25; i++) {
            DUE.same("x at " + i, x.sent(0, 0, 13, i), (i + 1) / 2);
        }
        DUE.same("behind the last", x.sent(0, 0, 13, 25), -1);
        DUE.same("9 ERRORS of 25", x.mended(0, 0, 13, 9, 4, 0) <= 9, true);
        DUE.same("9 ERRORS of 25 are mended", x.mended(0, 0, 13, 9, 4, 2), 1);
        DUE.same("9 ERRORS of 25 are mended alone", x.mended(0, 0, 13, 9, 4, 1), 1);
    }

    /** "NONE: as room(), m is below 0, or there is no such value." */
    private static void sentNone() {
        for (int m : new int[] {-1, -7, Integer.MIN_VALUE}) {
            Seen.refused(DUE, "sent(0, 0, " + m + ", 0)", x -> x.sent(0, 0, m, 0), -1);
        }
        for (int i : new int[] {-1, 10, 11, 26, Integer.MIN_VALUE, Integer.MAX_VALUE}) {
            Seen.refused(DUE, "sent(0, 0, 1, " + i + ")", x -> x.sent(0, 0, 1, i), -1);
        }
        DUE.same("sent(0, 0, 1, 9)", Seen.sample().sent(0, 0, 1, 9) >= 0, true);
        Seen.refused(DUE, "sent: it FITS not", x -> x.sent(0, 2, 0, 0), -1);
        for (int sum : NO_SUMS) {
            Seen.refused(DUE, "sent(0, " + sum + ", 0, 0)", x -> x.sent(0, sum, 0, 0), -1);
        }
        for (int curve : NO_CURVES) {
            Seen.refused(DUE, "sent(" + curve + ", 1, 0, 0)", x -> x.sent(curve, 1, 0, 0), -1);
        }
    }

    private static void mended(String call, CurveShares x, int[] how, int places, int many, int among) {
        DUE.same(call + ": how many places", x.mended(0, 0, how[0], how[1], how[2], 0), places);
        DUE.same(call + ": how many of CODE", x.mended(0, 0, how[0], how[1], how[2], 1), many);
        DUE.same(call + ": SENT of m", x.mended(0, 0, how[0], how[1], how[2], 2), among);
    }

    /** No ERRORS: SENT of m is the nearest, alone. */
    private static void withoutErrors() {
        CurveShares x = on(SEVEN, "far 3;");
        for (int m : new int[] {0, 1, 48, 49, 342, 343, Integer.MAX_VALUE}) {
            mended("SENT of " + m, x, new int[] {m, 0, 77}, 0, 1, 1);
        }
    }

    /** With fewer ERRORS than half of LEAST (8) it is the nearest, too, whatever the SEED. */
    private static void withErrors() {
        CurveShares x = on(SEVEN, "far 3;");
        for (int seed : new int[] {0, 1, 77, -1, Integer.MIN_VALUE, Integer.MAX_VALUE}) {
            for (int e = 1; e <= 3; e++) {
                DUE.same("alone", x.mended(0, 0, 100, e, seed, 1), 1);
                DUE.same("SENT of m", x.mended(0, 0, 100, e, seed, 2), 1);
                DUE.same("no more places than ERRORS", x.mended(0, 0, 100, e, seed, 0) <= e, true);
            }
            DUE.same("1 ERROR is 1 place", x.mended(0, 0, 100, 1, seed, 0), 1);
            DUE.same("9 ERRORS", x.mended(0, 0, 100, 9, seed, 0) >= 0, true);
        }
    }

    private static int step(int x) {
        return (int) (((x & 0xffffffffL) * 1103515245L + 12345L) & 0xffffffffL);
    }

    /** LENGTH 1: each ERROR is at place 0, and all rows of one number are in CODE. */
    private static void onePlace() {
        CurveShares x = on(FIVE_ROOTS, "at 0 0 0; at 1 0 0; at 2 0 0; at 3 0 0;");
        for (int seed : new int[] {0, 1, 2, 3, 4, 5, -1, 99, Integer.MIN_VALUE, Integer.MAX_VALUE}) {
            int state = seed;
            int added = 0;
            for (int e = 0; e <= 9; e++) {
                mended("seed " + seed + ", " + e + " ERRORS", x, new int[] {3, e, seed}, 0, 1, added % 5 == 0 ? 1 : 0);
                state = step(step(state));
                added += (int) ((state & 0xffffffffL) >> 16) % 4 + 1;
            }
        }
    }

    /** CODE of 0 and the 6 of like values at 11 places: the row that comes most often is the nearest. */
    private static void tooFarGone() {
        CurveShares x = on(SEVEN, "far 1;");
        for (int seed = -40; seed < 40; seed++) {
            for (int e = 0; e <= 9; e++) {
                int[] row = new int[11];
                java.util.Arrays.fill(row, 2);
                int state = seed * 12345677;
                for (int n = 0; n < e; n++) {
                    state = step(state);
                    int place = (int) ((state & 0xffffffffL) >> 16) % 11;
                    state = step(state);
                    row[place] = (row[place] + (int) ((state & 0xffffffffL) >> 16) % 6 + 1) % 7;
                }
                int[] often = new int[7];
                for (int value : row) {
                    often[value]++;
                }
                int most = 0;
                int many = 0;
                for (int times : often) {
                    many = times > most ? 1 : times == most ? many + 1 : many;
                    most = Math.max(most, times);
                }
                mended("seed " + seed + ", " + e + " ERRORS", x, new int[] {2, e, seed * 12345677}, 11 - most, many, often[2] == most ? 1 : 0);
            }
        }
    }

    /** "x becomes x * 1103515245 + 12345 (of 32 bits), it is x shifted right by 16 without sign": both edges of a number drawn. */
    private static void seeds() {
        // ROOM is empty, so the nearest is all 0, and the places of ERRORS are counted.
        CurveShares x = on(SEVEN, "far -1;");
        for (int seed : new int[] {0, 1, -1, 12345, 1 << 16, 1 << 30, 1 << 31, -12345, Integer.MAX_VALUE}) {
            int[] row = new int[11];
            int state = seed;
            for (int e = 0; e <= 9; e++) {
                int unlike = 0;
                for (int value : row) {
                    unlike += value == 0 ? 0 : 1;
                }
                mended("seed " + seed + ", " + e + " ERRORS", x, new int[] {1, e, seed}, unlike, 1, 1);
                state = step(state);
                int place = (state >>> 16) % 11;
                state = step(state);
                row[place] = (row[place] + (state >>> 16) % 6 + 1) % 7;
            }
        }
    }

    /** "NONE: as code(), LENGTH is 0, m is below 0, another e, or for another what." */
    private static void mendedNone() {
        for (int m : new int[] {-1, Integer.MIN_VALUE}) {
            Seen.refused(DUE, "mended, m " + m, x -> x.mended(0, 0, m, 0, 0, 0), -1);
        }
        for (int e : new int[] {-1, 10, 11, Integer.MIN_VALUE, Integer.MAX_VALUE}) {
            for (int what = 0; what < 3; what++) {
                int of = what;
                Seen.refused(DUE, "mended, e " + e, x -> x.mended(0, 0, 0, e, 0, of), -1);
            }
        }
        for (int what : new int[] {-1, 3, 100, Integer.MIN_VALUE, Integer.MAX_VALUE}) {
            Seen.refused(DUE, "mended, what " + what, x -> x.mended(0, 0, 0, 0, 0, what), -1);
        }
        Seen.refused(DUE, "mended: it FITS not", x -> x.mended(0, 2, 0, 0, 0, 0), -1);
        for (int sum : NO_SUMS) {
            Seen.refused(DUE, "mended, SUM " + sum, x -> x.mended(0, sum, 0, 0, 0, 0), -1);
        }
        for (int curve : NO_CURVES) {
            Seen.refused(DUE, "mended, CURVE " + curve, x -> x.mended(curve, 1, 0, 0, 0, 0), -1);
        }
        CurveShares x = Seen.sample();
        DUE.same("the sample's is told", x.mended(0, 0, 0, 0, 0, 0), 0);
    }
}
