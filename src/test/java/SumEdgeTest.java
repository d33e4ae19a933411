/** The boundary cases of promises 7, 12, 15 to 17 and 19 to 23, and of what "Terms" say there, a test for each sentence. */
public final class SumEdgeTest {
    private static final Due DUE = new Due();
    /** y * y = x * x * x + 1 below 7: (0, 1) is of ORDER 3, (3, 0), (5, 0) and (6, 0) are FIXED; 12 CLASSES. */
    private static final String SEVEN = "";
    /** g 2, below 3: (0, 1), (0, 2), (1, 1), (1, 2), (2, 1), (2, 2), and FAR; 29 CLASSES. */
    private static final String GENUS_2 = "prime 3; curve 1 2 0 0 0 1;";
    private static final int[] NO_CURVES = {2, -1, Integer.MIN_VALUE, Integer.MAX_VALUE};
    private static final int[] NO_SUMS = {3, -1, Integer.MIN_VALUE, Integer.MAX_VALUE};

    public static void main(String[] args) {
        sumParts();
        sumNone();
        fitting();
        fittingNone();
        degrees();
        rooms();
        unders();
        roomNone();
        baseRows();
        basePowers();
        baseNone();
        underParts();
        underNone();
        timesOf();
        timesNone();
        classParts();
        addedOf();
        addedNone();
        orders();
        orderNone();
        sames();
        sameFalse();
        logs();
        logNone();
        DUE.end();
    }

    private static CurveShares on(String curve, String... sums) {
        CurveShares x = Due.on(curve);
        for (String sum : sums) {
            if (Due.tell(x, 1, -1, sum) < 0) {
                throw new IllegalStateException("no sum: " + sum);
            }
        }
        return x;
    }

    /** "What 0: ENTRIES, 1: how often FAR, 10 + i, 20 + i, 30 + i: X, Y, how often of ENTRY i." */
    private static void sumParts() {
        CurveShares x = on(SEVEN, "", "at 0 12 -5; far -9; at 12 0 5; at 1 2 0;", "at 1 2 3;".repeat(7) + "far 9; at 4 5 -4;");
        DUE.same("no ENTRIES", x.sum(0, 0), 0);
        DUE.same("FAR at first", x.sum(0, 1), 0);
        DUE.same("three ENTRIES", x.sum(1, 0), 3);
        DUE.same("FAR at the least", x.sum(1, 1), -9);
        int[] due = {0, 12, 1, 12, 0, 2, -5, 5, 0};
        for (int i = 0; i < 9; i++) {
            DUE.same("part " + i, x.sum(1, 10 + i / 3 * 10 + i % 3), due[i]);
        }
        DUE.same("eight ENTRIES", x.sum(2, 0), 8);
        DUE.same("FAR at the most", x.sum(2, 1), 9);
        DUE.same("the last one's X", x.sum(2, 17), 4);
        DUE.same("the last one's Y", x.sum(2, 27), 5);
        DUE.same("the last one's how often", x.sum(2, 37), -4);
    }

    /** "-100: there is none such, or for another what." */
    private static void sumNone() {
        int[] whats = {-1, 2, 3, 8, 9, 11, 12, 18, 19, 21, 28, 29, 31, 38, 39, 40, 41, 50, 100, 110, -10, -90, Integer.MIN_VALUE, Integer.MAX_VALUE};
        for (int what : whats) {
            Seen.refused(DUE, "sum(0, " + what + ")", x -> x.sum(0, what), -100);
        }
        for (int sum : NO_SUMS) {
            Seen.refused(DUE, "sum(" + sum + ", 0)", x -> x.sum(sum, 0), -100);
            Seen.refused(DUE, "sum(" + sum + ", 10)", x -> x.sum(sum, 10), -100);
        }
        CurveShares x = on(SEVEN, "", "at 0 1 1;".repeat(8));
        for (int part = 10; part <= 30; part += 10) {
            DUE.same("ENTRY 0 of none", x.sum(0, part), -100);
            DUE.same("ENTRY 8 of eight", x.sum(1, part + 8), -100);
            DUE.same("ENTRY 9 of eight", x.sum(1, part + 9), -100);
        }
        DUE.same("no SUM 2", x.sum(2, 0), -100);
    }

    private static boolean fitsOn(String curve, String sum) {
        return on(curve, sum).fits(0, 0);
    }

    /** "A SUM FITS on a CURVE, if all its X, Y are below p and on it." */
    private static void fitting() {
        DUE.same("no ENTRIES", fitsOn(SEVEN, ""), true);
        DUE.same("FAR alone", fitsOn(SEVEN, "far -9;"), true);
        DUE.same("(6, 0)", fitsOn(SEVEN, "at 6 0 1;"), true);
        DUE.same("(0, 6)", fitsOn(SEVEN, "at 0 6 1;"), true);
        DUE.same("(7, 1), as (0, 1) by 7, but not below", fitsOn(SEVEN, "at 7 1 1;"), false);
        DUE.same("(0, 8), as (0, 1) by 7, but not below", fitsOn(SEVEN, "at 0 8 1;"), false);
        DUE.same("(10, 7), as (3, 0) by 7, but not below", fitsOn(SEVEN, "at 10 7 1;"), false);
        DUE.same("(0, 0) is not on it", fitsOn(SEVEN, "at 0 0 1;"), false);
        DUE.same("not on it, 0 times", fitsOn(SEVEN, "at 0 0 0;"), false);
        DUE.same("the last one is not on it", fitsOn(SEVEN, "at 0 1 1;".repeat(7) + "at 0 2 1;"), false);
        DUE.same("the first one is not on it", fitsOn(SEVEN, "at 0 2 1;" + "at 0 1 1;".repeat(7)), false);
        DUE.same("eight that are", fitsOn(SEVEN, "at 0 1 1;".repeat(8)), true);
        DUE.same("(12, 5) below 13", fitsOn("prime 13; curve 1 0 0 0 0 2;", "at 12 5 1;"), true);
        DUE.same("(0, 12) below 13", fitsOn("prime 13; curve 1 0 0 0 0 2;", "at 0 12 1;"), true);
        CurveShares x = Seen.sample();
        DUE.same("on the other CURVE, too", x.fits(1, 1), true);
        DUE.same("on this one alone", x.fits(0, 0), true);
        DUE.same("not on the other one", x.fits(1, 0), false);
        DUE.same("on the other one alone", x.fits(1, 2), true);
        DUE.same("not on this one", x.fits(0, 2), false);
    }

    /** "False, too, if there is none such (of either)." */
    private static void fittingNone() {
        for (int sum : NO_SUMS) {
            Seen.refused(DUE, "fits(0, " + sum + ")", x -> x.fits(0, sum) ? 1 : 0, 0);
        }
        for (int curve : NO_CURVES) {
            Seen.refused(DUE, "fits(" + curve + ", 1)", x -> x.fits(curve, 1) ? 1 : 0, 0);
        }
        CurveShares x = new CurveShares();
        Due.tell(x, 1, -1, "");
        DUE.same("no CURVE at all", x.fits(0, 0), false);
        DUE.same("no SUM at all", Due.on("").fits(0, 0), false);
    }

    private static void room(String curve, String sum, int degree, int room, int barred, int under) {
        CurveShares x = on(curve, sum);
        DUE.same("DEGREE of " + sum, x.room(0, 0, 0), degree);
        DUE.same("ROOM of " + sum, x.room(0, 0, 1), room);
        DUE.same("BARRED of " + sum, x.room(0, 0, 2), barred);
        DUE.same("E's degree of " + sum, x.room(0, 0, 3), under);
    }

    /** "DEGREE of a SUM: how often all, together"; the greatest and the least that can be told. */
    private static void degrees() {
        room(SEVEN, "", 0, 1, 1, 0);
        room(SEVEN, "at 0 1 5;".repeat(8) + "far 9;", 49, 49, 0, 40);
        room(SEVEN, "at 0 1 -5;".repeat(8) + "far -9;", -49, 0, 49, 0);
        room(GENUS_2, "at 0 1 5;".repeat(8) + "far 9;", 49, 48, 0, 40);
        room(GENUS_2, "at 0 1 -5;".repeat(8) + "far -9;", -49, 0, 50, 0);
        room(SEVEN, "at 0 1 5; at 0 1 -5; far 3;", 3, 3, 0, 0);
    }

    /** "ROOM of a SUM: how many numbers tell one": 0 below 0, 1 of 0, g of CANON; "BARRED: ROOM of CANON less the SUM". */
    private static void rooms() {
        int[] seven = {0, 0, 1, 1, 2, 3, 4};
        int[] genus2 = {0, 0, 1, 1, 2, 2, 3, 4};
        for (int n = -2; n <= 4; n++) {
            room(SEVEN, "far " + n + ";", n, seven[n + 2], seven[n + 2] - n, 0);
        }
        for (int n = -2; n <= 5; n++) {
            room(GENUS_2, "far " + n + ";", n, genus2[n + 2], genus2[n + 2] - n + 1, 0);
        }
        // Of DEGREE 0: 1 if the CLASS is that of 0, else 0.
        room(SEVEN, "at 0 1 1; far -1;", 0, 0, 0, 1);
        room(SEVEN, "at 0 1 3; far -3;", 0, 1, 1, 3);
        room(SEVEN, "at 0 1 1; at 0 6 1; far -2;", 0, 1, 1, 1);
        room(SEVEN, "at 3 0 2; far -2;", 0, 1, 1, 1);
        room(GENUS_2, "at 0 1 1; at 0 2 1; far -2;", 0, 1, 2, 1);
        room(GENUS_2, "at 0 1 2; far -2;", 0, 0, 1, 2);
        // Of DEGREE 2, g 2: 2 if the CLASS is that of 0, else 1.
        room(GENUS_2, "at 0 1 1; at 0 2 1;", 2, 2, 1, 1);
        room(GENUS_2, "at 0 1 1; at 1 1 1;", 2, 1, 0, 2);
    }

    /** "Each as often as m: for POINTS that are not FIXED the greatest of how often they are in it (0 at least), for FIXED ones half of it, cut up." */
    private static void unders() {
        int[] half = {0, 0, 0, 0, 0, 0, 1, 1, 2, 2, 3};
        for (int n = -5; n <= 5; n++) {
            DUE.same("E of " + n + " times one", on(SEVEN, "at 0 1 " + n + ";").room(0, 0, 3), Math.max(0, n));
            DUE.same("E of " + n + " times a FIXED one", on(SEVEN, "at 3 0 " + n + ";").room(0, 0, 3), half[n + 5]);
            for (int m = -5; m <= 5; m++) {
                DUE.same("E of " + n + " and " + m, on(SEVEN, "at 0 1 " + n + "; at 0 6 " + m + ";").room(0, 0, 3), Math.max(0, Math.max(n, m)));
            }
        }
        DUE.same("one told twice", on(SEVEN, "at 0 1 2; at 0 1 3;").room(0, 0, 3), 5);
        DUE.same("one told twice, less", on(SEVEN, "at 0 1 5; at 0 1 -3;").room(0, 0, 3), 2);
        DUE.same("one told twice, to below 0", on(SEVEN, "at 0 1 3; at 0 1 -5;").room(0, 0, 3), 0);
        DUE.same("a FIXED one told twice", on(SEVEN, "at 3 0 1; at 3 0 1;").room(0, 0, 3), 1);
        DUE.same("a FIXED one told three times", on(SEVEN, "at 3 0 1; at 3 0 1; at 3 0 1;").room(0, 0, 3), 2);
        DUE.same("all X", on(SEVEN, "at 0 1 5; at 1 3 5; at 2 4 5; at 3 0 5; at 4 3 5; at 5 0 5; at 6 0 5; far 9;").room(0, 0, 3), 29);
    }

    /** "-1000: it FITS not, there is none such (of either), or for another what." */
    private static void roomNone() {
        for (int what : new int[] {-1, 4, 5, Integer.MIN_VALUE, Integer.MAX_VALUE}) {
            Seen.refused(DUE, "room(0, 0, " + what + ")", x -> x.room(0, 0, what), -1000);
        }
        for (int what = 0; what < 4; what++) {
            int of = what;
            Seen.refused(DUE, "it FITS not: " + what, x -> x.room(0, 2, of), -1000);
            Seen.refused(DUE, "it FITS not there: " + what, x -> x.room(1, 0, of), -1000);
            for (int sum : NO_SUMS) {
                Seen.refused(DUE, "room(0, " + sum + ", " + what + ")", x -> x.room(0, sum, of), -1000);
            }
            for (int curve : NO_CURVES) {
                Seen.refused(DUE, "room(" + curve + ", 1, " + what + ")", x -> x.room(curve, 1, of), -1000);
            }
        }
    }

    /** "Each with one power of x, x * y that has the least ORDER at FAR of its row, with 1, which no other row of them has; the row with the greatest of these ORDERS first." */
    private static void baseRows() {
        CurveShares x = on(SEVEN, "far 6;", "far 3; at 0 1 -1;", "far 5; at 0 1 -1; at 0 6 -1;");
        int[] leads = {0, 2, 3, 4, 5, 6};
        for (int k = 0; k < 6; k++) {
            for (int i = 0; i <= 3; i++) {
                DUE.same("row " + k + " A " + i, x.base(0, 0, k, false, i), 2 * i == leads[k] ? 1 : 0);
            }
            for (int i = 0; i <= 1; i++) {
                DUE.same("row " + k + " B " + i, x.base(0, 0, k, true, i), 2 * i + 3 == leads[k] ? 1 : 0);
            }
        }
        // What is 0 at (0, 1): x, then y - 1.
        int[][] parts = {{0, 1, 0}, {6, 0, 1}};
        for (int k = 0; k < 2; k++) {
            DUE.same("of 1", x.base(0, 1, k, false, 0), parts[k][0]);
            DUE.same("of x", x.base(0, 1, k, false, 1), parts[k][1]);
            DUE.same("of y", x.base(0, 1, k, true, 0), parts[k][2]);
        }
        // What is 0 at (0, 1) and at (0, 6): x, x * x, x * y.
        DUE.same("three rows", x.room(0, 2, 1), 3);
        DUE.same("first x", x.base(0, 2, 0, false, 1), 1);
        DUE.same("then x * x", x.base(0, 2, 1, false, 2), 1);
        DUE.same("then x * y", x.base(0, 2, 2, true, 1), 1);
        DUE.same("with no y", x.base(0, 2, 2, true, 0), 0);
    }

    /** "i is below 0, or there is no room for it": a power whose poles at FAR the SUM and E let. */
    private static void basePowers() {
        powers(SEVEN, "", 0, -1);
        powers(SEVEN, "far 1;", 0, -1);
        powers(SEVEN, "far 2;", 1, -1);
        powers(SEVEN, "far 3;", 1, 0);
        powers(SEVEN, "far 4;", 2, 0);
        powers(SEVEN, "far 8;", 4, 2);
        powers(SEVEN, "far 9;", 4, 3);
        powers(SEVEN, "at 3 0 2; far 1;", 1, 0);
        powers(SEVEN, "at 3 0 1;", 1, -1);
        powers(SEVEN, "at 0 1 5;".repeat(8) + "far 9;", 44, 43);
        powers(SEVEN, "at 0 1 5;".repeat(8) + "far 8;", 44, 42);
        powers(GENUS_2, "far 4;", 2, -1);
        powers(GENUS_2, "far 5;", 2, 0);
        powers(GENUS_2, "far 6;", 3, 0);
        powers(GENUS_2, "at 0 1 5;".repeat(8) + "far 9;", 44, 42);
    }

    private static void powers(String curve, String sum, int lastA, int lastB) {
        CurveShares x = on(curve, sum);
        int rows = x.room(0, 0, 1);
        for (int k : new int[] {0, rows - 1}) {
            DUE.same("A at -1 of " + sum, x.base(0, 0, k, false, -1), -1);
            DUE.same("B at -1 of " + sum, x.base(0, 0, k, true, -1), -1);
            DUE.same("A's last of " + sum, x.base(0, 0, k, false, lastA) >= 0, true);
            DUE.same("behind A's last of " + sum, x.base(0, 0, k, false, lastA + 1), -1);
            DUE.same("B's last of " + sum, lastB < 0 || x.base(0, 0, k, true, lastB) >= 0, true);
            DUE.same("behind B's last of " + sum, x.base(0, 0, k, true, lastB + 1), -1);
        }
        DUE.same("row -1 of " + sum, x.base(0, 0, -1, false, 0), -1);
        DUE.same("behind the last row of " + sum, x.base(0, 0, rows, false, 0), -1);
    }

    /** "NONE: as room(), or there is none such (of any)." */
    private static void baseNone() {
        for (int k : new int[] {-1, 3, 4, Integer.MIN_VALUE, Integer.MAX_VALUE}) {
            Seen.refused(DUE, "base(0, 0, " + k + ", false, 0)", x -> x.base(0, 0, k, false, 0), -1);
            Seen.refused(DUE, "base(0, 0, " + k + ", true, 0)", x -> x.base(0, 0, k, true, 0), -1);
        }
        DUE.same("the last row", Seen.sample().base(0, 0, 2, true, 0), 1);
        for (int i : new int[] {-1, 2, 1 << 30, Integer.MIN_VALUE, Integer.MAX_VALUE}) {
            Seen.refused(DUE, "base(0, 0, 2, false, " + i + ")", x -> x.base(0, 0, 2, false, i), -1);
            Seen.refused(DUE, "base(0, 0, 2, true, " + i + ")", x -> x.base(0, 0, 2, true, i), -1);
        }
        Seen.refused(DUE, "base: it FITS not", x -> x.base(0, 2, 0, false, 0), -1);
        for (int sum : NO_SUMS) {
            Seen.refused(DUE, "base(0, " + sum + ", 0, false, 0)", x -> x.base(0, sum, 0, false, 0), -1);
        }
        for (int curve : NO_CURVES) {
            Seen.refused(DUE, "base(" + curve + ", 1, 0, false, 0)", x -> x.base(curve, 1, 0, false, 0), -1);
        }
        DUE.same("no row of an empty ROOM", on(SEVEN, "far -1;").base(0, 0, 0, false, 0), -1);
    }

    /** "E's coefficient of x to the i." */
    private static void underParts() {
        CurveShares x = on(SEVEN, "at 0 1 1; at 3 0 2; at 1 4 1;", "", "at 0 1 -5; far 9;");
        int[] due = {0, 3, 3, 1};
        for (int i = 0; i < 4; i++) {
            DUE.same("E " + i, x.under(0, 0, i), due[i]);
        }
        for (int sum = 1; sum < 3; sum++) {
            DUE.same("E is 1", x.under(0, sum, 0), 1);
            DUE.same("behind 1", x.under(0, sum, 1), -1);
            DUE.same("before 1", x.under(0, sum, -1), -1);
        }
        CurveShares y = on(SEVEN, "at 0 1 5;".repeat(8));
        for (int i = 0; i <= 41; i++) {
            DUE.same("x to the 40th: " + i, y.under(0, 0, i), i == 41 ? -1 : i / 40);
        }
    }

    /** "NONE: as room(), or i is none of 0 to its degree." */
    private static void underNone() {
        for (int i : new int[] {-1, 2, 40, 41, Integer.MIN_VALUE, Integer.MAX_VALUE}) {
            Seen.refused(DUE, "under(0, 0, " + i + ")", x -> x.under(0, 0, i), -1);
        }
        Seen.refused(DUE, "under: it FITS not", x -> x.under(0, 2, 0), -1);
        for (int sum : NO_SUMS) {
            Seen.refused(DUE, "under(0, " + sum + ", 0)", x -> x.under(0, sum, 0), -1);
        }
        for (int curve : NO_CURVES) {
            Seen.refused(DUE, "under(" + curve + ", 1, 0)", x -> x.under(curve, 1, 0), -1);
        }
    }

    private static void class5(String call, CurveShares x, int n, int... due) {
        for (int what = 0; what < 5; what++) {
            DUE.same(call + ", " + n + " times, what " + what, x.times(0, 0, n, what), due[what]);
        }
    }

    /** "CLASS of n times a SUM (TIMES), n -99 .. 99." */
    private static void timesOf() {
        CurveShares x = on(SEVEN, "at 0 1 1;");
        for (int n = -99; n <= 99; n++) {
            int rest = Math.floorMod(n, 3);
            if (rest == 0) {
                class5("(0, 1)", x, n, 1, 0, 0, 0, 0);
            } else {
                class5("(0, 1)", x, n, 0, 1, 0, rest == 1 ? 1 : 6, 0);
            }
        }
        CurveShares y = on(SEVEN, "at 3 0 1; far 7;");
        for (int n = -99; n <= 99; n++) {
            class5("(3, 0)", y, n, n % 2 == 0 ? 1 : 4, n % 2 == 0 ? 0 : 1, 0, 0, 0);
        }
        CurveShares z = on(GENUS_2, "at 0 1 1;");
        for (int n = -99; n <= 99; n++) {
            boolean nothing = n % 29 == 0;
            DUE.same("g 2: 0 by " + n, z.times(0, 0, n, 1) == 0 && z.times(0, 0, n, 2) == 0, nothing);
            for (int what = 0; what < 3; what++) {
                DUE.same("g 2: U of the negative of " + n, z.times(0, 0, -n, what), z.times(0, 0, n, what));
            }
        }
    }

    /** "NONE: as room(), another n, or for another what." */
    private static void timesNone() {
        for (int n : new int[] {-100, 100, 101, Integer.MIN_VALUE, Integer.MAX_VALUE}) {
            Seen.refused(DUE, "times(0, 0, " + n + ", 0)", x -> x.times(0, 0, n, 0), -1);
        }
        for (int what : new int[] {-1, 5, 6, Integer.MIN_VALUE, Integer.MAX_VALUE}) {
            Seen.refused(DUE, "times(0, 0, 1, " + what + ")", x -> x.times(0, 0, 1, what), -1);
        }
        Seen.refused(DUE, "times: it FITS not", x -> x.times(0, 2, 1, 0), -1);
        for (int sum : NO_SUMS) {
            Seen.refused(DUE, "times(0, " + sum + ", 1, 0)", x -> x.times(0, sum, 1, 0), -1);
        }
        for (int curve : NO_CURVES) {
            Seen.refused(DUE, "times(" + curve + ", 1, 1, 0)", x -> x.times(curve, 1, 1, 0), -1);
        }
    }

    /** "U of degree g at most, its greatest power with 1, V of a degree below (1, 0: the CLASS of 0)." */
    private static void classParts() {
        class5("nothing", on(GENUS_2, ""), 1, 1, 0, 0, 0, 0);
        class5("FAR", on(GENUS_2, "far 9;"), 1, 1, 0, 0, 0, 0);
        class5("a POINT 0 times", on(GENUS_2, "at 0 1 0;"), 1, 1, 0, 0, 0, 0);
        class5("a POINT", on(GENUS_2, "at 1 2 1;"), 1, 2, 1, 0, 2, 0);
        class5("less a POINT", on(GENUS_2, "at 1 2 -1;"), 1, 2, 1, 0, 1, 0);
        class5("two of one Y", on(GENUS_2, "at 0 1 1; at 1 1 1;"), 1, 0, 2, 1, 1, 0);
        class5("two", on(GENUS_2, "at 0 1 1; at 1 2 1;"), 1, 0, 2, 1, 1, 1);
        class5("one twice", on(GENUS_2, "at 0 1 2;"), 1, 0, 0, 1, 1, 1);
        class5("one told twice", on(GENUS_2, "at 0 1 1; at 0 1 1;"), 1, 0, 0, 1, 1, 1);
        class5("those of one X", on(GENUS_2, "at 0 1 1; at 0 2 1;"), 1, 1, 0, 0, 0, 0);
        // y - 1 is 0 at (0, 1), (1, 1), (2, 1) and twice where x * x + 1 is 0, y being 1.
        class5("three that two others bar", on(GENUS_2, "at 0 1 1; at 1 1 1; at 2 1 1;"), 1, 1, 0, 1, 2, 0);
        class5("g 1: two on a line", on(SEVEN, "at 0 1 1; at 3 0 1;"), 1, 6, 1, 0, 4, 0);
        class5("g 1: three on a line", on(SEVEN, "at 0 1 1; at 3 0 1; at 1 3 1;"), 1, 1, 0, 0, 0, 0);
        class5("g 1: three of a tangent that stays", on(SEVEN, "at 0 1 3;"), 1, 1, 0, 0, 0, 0);
    }

    /** "CLASS of two SUMS together, what as times()." */
    private static void addedOf() {
        CurveShares x = on(GENUS_2, "at 0 1 1; far 4;", "at 1 2 1;", "at 0 2 1;");
        int[] both = {0, 2, 1, 1, 1};
        int[] twice = {0, 0, 1, 1, 1};
        int[] nothing = {1, 0, 0, 0, 0};
        for (int what = 0; what < 5; what++) {
            DUE.same("both, what " + what, x.added(0, 0, 1, what), both[what]);
            DUE.same("both the other way, what " + what, x.added(0, 1, 0, what), both[what]);
            DUE.same("one twice, what " + what, x.added(0, 0, 0, what), twice[what]);
            DUE.same("to nothing, what " + what, x.added(0, 0, 2, what), nothing[what]);
        }
    }

    /** "NONE: one FITS not, there is none such (of any), or for another what." */
    private static void addedNone() {
        for (int what : new int[] {-1, 5, 6, Integer.MIN_VALUE, Integer.MAX_VALUE}) {
            Seen.refused(DUE, "added(0, 0, 1, " + what + ")", x -> x.added(0, 0, 1, what), -1);
        }
        Seen.refused(DUE, "added: one FITS not", x -> x.added(0, 2, 1, 0), -1);
        Seen.refused(DUE, "added: two FITS not", x -> x.added(0, 1, 2, 0), -1);
        for (int sum : NO_SUMS) {
            Seen.refused(DUE, "added(0, " + sum + ", 1, 0)", x -> x.added(0, sum, 1, 0), -1);
            Seen.refused(DUE, "added(0, 1, " + sum + ", 0)", x -> x.added(0, 1, sum, 0), -1);
        }
        for (int curve : NO_CURVES) {
            Seen.refused(DUE, "added(" + curve + ", 1, 1, 0)", x -> x.added(curve, 1, 1, 0), -1);
        }
    }

    /** "The least n above 0 by which it is that of 0." */
    private static void orders() {
        CurveShares x = on(SEVEN, "", "far -9;", "at 3 0 1; far 2;");
        DUE.same("of nothing", x.orderOf(0, 0), 1);
        DUE.same("of FAR", x.orderOf(0, 1), 1);
        DUE.same("of a FIXED one", x.orderOf(0, 2), 2);
        CurveShares y = on(SEVEN, "at 0 1 1;", "at 0 1 1; at 3 0 1;", "at 0 1 5; at 0 6 5;");
        DUE.same("of (0, 1)", y.orderOf(0, 0), 3);
        DUE.same("of both", y.orderOf(0, 1), 6);
        DUE.same("of those of one X", y.orderOf(0, 2), 1);
        DUE.same("all CLASSES", on(GENUS_2, "at 0 1 1;").orderOf(0, 0), 29);
        DUE.same("one CLASS", on("prime 3; curve 2 2 0 1;", "far 5;").orderOf(0, 0), 1);
    }

    /** "NONE: as room()." */
    private static void orderNone() {
        Seen.refused(DUE, "orderOf: it FITS not", x -> x.orderOf(0, 2), -1);
        for (int sum : NO_SUMS) {
            Seen.refused(DUE, "orderOf(0, " + sum + ")", x -> x.orderOf(0, sum), -1);
        }
        for (int curve : NO_CURVES) {
            Seen.refused(DUE, "orderOf(" + curve + ", 1)", x -> x.orderOf(curve, 1), -1);
        }
    }

    /** "Whether two SUMS are of one CLASS and one DEGREE." */
    private static void sames() {
        CurveShares x = on(SEVEN, "at 0 1 3;", "far 3;", "far 2;");
        DUE.same("of one CLASS and DEGREE", x.same(0, 0, 1), true);
        DUE.same("the other way", x.same(0, 1, 0), true);
        DUE.same("of one CLASS alone", x.same(0, 1, 2), false);
        DUE.same("of one CLASS alone, the other way", x.same(0, 2, 0), false);
        DUE.same("itself", x.same(0, 0, 0), true);
        CurveShares y = on(SEVEN, "at 0 1 1;", "far 1;", "at 0 6 1;");
        DUE.same("of one DEGREE alone", y.same(0, 0, 1), false);
        DUE.same("of one DEGREE and U alone", y.same(0, 0, 2), false);
    }

    /** "False, too: as added()." */
    private static void sameFalse() {
        Seen.refused(DUE, "same: one FITS not", x -> x.same(0, 2, 1) ? 1 : 0, 0);
        Seen.refused(DUE, "same: two FITS not", x -> x.same(0, 1, 2) ? 1 : 0, 0);
        Seen.refused(DUE, "same: neither FITS", x -> x.same(0, 2, 2) ? 1 : 0, 0);
        for (int sum : NO_SUMS) {
            Seen.refused(DUE, "same(0, " + sum + ", 1)", x -> x.same(0, sum, 1) ? 1 : 0, 0);
            Seen.refused(DUE, "same(0, 1, " + sum + ")", x -> x.same(0, 1, sum) ? 1 : 0, 0);
            Seen.refused(DUE, "same(0, " + sum + ", " + sum + ")", x -> x.same(0, sum, sum) ? 1 : 0, 0);
        }
        for (int curve : NO_CURVES) {
            Seen.refused(DUE, "same(" + curve + ", 1, 1)", x -> x.same(curve, 1, 1) ? 1 : 0, 0);
        }
    }

    /** "The least n, 0 at least, so that n times the first one's CLASS is the second one's." */
    private static void logs() {
        CurveShares x = on(SEVEN, "at 0 1 1; far 1;", "at 0 6 1;", "far 5;");
        DUE.same("to 0", x.log(0, 0, 2), 0);
        DUE.same("from 0 to 0", x.log(0, 2, 2), 0);
        DUE.same("to itself", x.log(0, 0, 0), 1);
        DUE.same("to the negative", x.log(0, 0, 1), 2);
        CurveShares y = on(GENUS_2, "at 0 1 1;", "at 0 2 1;", "");
        DUE.same("the greatest", y.log(0, 0, 1), 28);
        DUE.same("the greatest back", y.log(0, 1, 0), 28);
        DUE.same("to 0, not to 29", y.log(0, 0, 2), 0);
    }

    /** "NONE: none, or as added()." */
    private static void logNone() {
        CurveShares x = on(SEVEN, "at 0 1 1;", "at 3 0 1;", "");
        DUE.same("none", x.log(0, 0, 1), -1);
        DUE.same("none back", x.log(0, 1, 0), -1);
        DUE.same("none from 0", x.log(0, 2, 0), -1);
        Seen.refused(DUE, "log: none", y -> y.log(0, 0, 1), -1);
        Seen.refused(DUE, "log: one FITS not", y -> y.log(0, 2, 1), -1);
        Seen.refused(DUE, "log: two FITS not", y -> y.log(0, 1, 2), -1);
        for (int sum : NO_SUMS) {
            Seen.refused(DUE, "log(0, " + sum + ", 1)", y -> y.log(0, sum, 1), -1);
            Seen.refused(DUE, "log(0, 1, " + sum + ")", y -> y.log(0, 1, sum), -1);
        }
        for (int curve : NO_CURVES) {
            Seen.refused(DUE, "log(" + curve + ", 1, 1)", y -> y.log(curve, 1, 1), -1);
        }
    }
}
