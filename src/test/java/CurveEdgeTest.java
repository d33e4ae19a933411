/** The boundary cases of promises 6, 9 to 11, 18 and 24 to 27, and of what "Terms" say there, a test for each sentence. */
public final class CurveEdgeTest {
    private static final Due DUE = new Due();
    private static final String SEVEN = "";
    private static final String GENUS_2 = "prime 3; curve 1 2 0 0 0 1;";
    /** No POINT but FAR, and no CLASS but that of 0. */
    private static final String FAR_ALONE = "prime 3; curve 2 2 0 1;";
    private static final int[] NO_CURVES = {2, -1, 3, Integer.MIN_VALUE, Integer.MAX_VALUE};

    public static void main(String[] args) {
        curveParts();
        curveNone();
        curveFew();
        curveMost();
        points();
        pointNone();
        countedInside();
        countedOutside();
        shares();
        shareNone();
        gaps();
        gapNone();
        torsions();
        torsionNone();
        changes();
        changeNone();
        likes();
        likeFalse();
        twists();
        twistNone();
        DUE.end();
    }

    /** "What 0: p, 1: F's degree, 2: g, 3: how many POINTS, 4: FIXED, 5: CLASSES, 6: BRANCHED, 10 + i: COEFFICIENT i." */
    private static void curveParts() {
        CurveShares x = Seen.sample();
        int[] seven = {7, 3, 1, 12, 4, 12, 4, -1, -1, -1, 1, 0, 0, 1, -1, -1, -1};
        int[] genus2 = {3, 5, 2, 7, 1, 29, 6, -1, -1, -1, 1, 2, 0, 0, 0, 1, -1};
        for (int what = 0; what < seven.length; what++) {
            DUE.same("curve 0, what " + what, x.curve(0, what), seven[what]);
            DUE.same("curve 1, what " + what, x.curve(1, what), genus2[what]);
        }
    }

    /** "NONE: there is none such, or for another what." */
    private static void curveNone() {
        for (int what : new int[] {-1, 7, 8, 9, 14, 20, Integer.MIN_VALUE, Integer.MAX_VALUE}) {
            Seen.refused(DUE, "curve(0, " + what + ")", x -> x.curve(0, what), -1);
        }
        Seen.refused(DUE, "curve(1, 16)", x -> x.curve(1, 16), -1);
        for (int curve : NO_CURVES) {
            Seen.refused(DUE, "curve(" + curve + ", 0)", x -> x.curve(curve, 0), -1);
            Seen.refused(DUE, "curve(" + curve + ", 10)", x -> x.curve(curve, 10), -1);
        }
        CurveShares x = new CurveShares();
        DUE.same("no CURVE at all", x.curve(0, 0), -1);
        Due.tell(x, 0, -1, SEVEN);
        DUE.same("one CURVE", x.curve(0, 0), 7);
        DUE.same("no second one", x.curve(1, 0), -1);
    }

    /** "And FAR behind them all": it is a POINT and FIXED, also where it is the only one. */
    private static void curveFew() {
        CurveShares x = Due.on(FAR_ALONE);
        DUE.same("POINTS", x.curve(0, 3), 1);
        DUE.same("FIXED", x.curve(0, 4), 1);
        DUE.same("CLASSES", x.curve(0, 5), 1);
        DUE.same("BRANCHED", x.curve(0, 6), 4);
        DUE.same("FAR's X", x.point(0, 0, 0), -2);
        DUE.same("behind FAR", x.point(0, 1, 0), -1);
        CurveShares y = Due.on("prime 3; curve 2 2 0 0 0 1;");
        DUE.same("g 2: POINTS", y.curve(0, 3), 1);
        DUE.same("g 2: CLASSES", y.curve(0, 5), 5);
        CurveShares z = Due.on("curve 0 6 0 1;");
        DUE.same("all roots: FIXED", z.curve(0, 4), 4);
        DUE.same("all roots: BRANCHED", z.curve(0, 6), 4);
        CurveShares five = Due.on("prime 5; curve 0 4 0 0 0 1;");
        DUE.same("5 roots: POINTS", five.curve(0, 3), 6);
        DUE.same("5 roots: FIXED", five.curve(0, 4), 6);
        DUE.same("5 roots: BRANCHED", five.curve(0, 6), 6);
    }

    /** The most POINTS that there are on a CURVE: 25 and FAR. */
    private static void curveMost() {
        CurveShares x = Due.on("prime 13; curve 0 1 0 10 0 1;");
        DUE.same("POINTS", x.curve(0, 3), 26);
        DUE.same("COUNT of 1", x.counted(0, 1, false), 26);
        DUE.same("TWIST's COUNT of 1", x.twist(0, 1), 2);
        DUE.same("(0, 0)", x.point(0, 0, 2), 1);
        for (int k = 1; k < 25; k++) {
            DUE.same("X of " + k, x.point(0, k, 0), (k + 1) / 2);
            int y = x.point(0, k, 1);
            DUE.same("Y of " + k, k % 2 == 1 ? y > 0 && y < 7 : y == 13 - x.point(0, k - 1, 1), true);
        }
        DUE.same("FAR", x.point(0, 25, 0), -2);
        DUE.same("behind FAR", x.point(0, 26, 0), -1);
        DUE.same("all CLASSES by their greatest ORDER", x.curve(0, 5) % x.torsion(0, 0), 0);
        CurveShares y = Due.on("prime 11; curve 6 1 4 8 8 1;");
        DUE.same("below 11, FAR alone", y.curve(0, 3), 1);
        DUE.same("its TWIST has all", y.twist(0, 1), 23);
    }

    /** "All (x, y) by x, then by y, and FAR behind them all"; "what 0: X, 1: Y (FAR: -2 both), 2: 1 if it is FIXED, else 0". */
    private static void points() {
        CurveShares x = Due.on(SEVEN);
        int[] xs = {0, 0, 1, 1, 2, 2, 3, 4, 4, 5, 6, -2};
        int[] ys = {1, 6, 3, 4, 3, 4, 0, 3, 4, 0, 0, -2};
        for (int k = 0; k < 12; k++) {
            DUE.same("X of " + k, x.point(0, k, 0), xs[k]);
            DUE.same("Y of " + k, x.point(0, k, 1), ys[k]);
            DUE.same("FIXED " + k, x.point(0, k, 2), ys[k] == 0 || k == 11 ? 1 : 0);
        }
    }

    /** "NONE: there is none such (of either), or for another what." */
    private static void pointNone() {
        for (int k : new int[] {-1, 12, 13, 26, 27, Integer.MIN_VALUE, Integer.MAX_VALUE}) {
            for (int what = 0; what < 3; what++) {
                int of = what;
                Seen.refused(DUE, "point(0, " + k + ", " + what + ")", x -> x.point(0, k, of), -1);
            }
        }
        for (int what : new int[] {-1, 3, Integer.MIN_VALUE, Integer.MAX_VALUE}) {
            Seen.refused(DUE, "point(0, 0, " + what + ")", x -> x.point(0, 0, what), -1);
            Seen.refused(DUE, "point(0, 11, " + what + ")", x -> x.point(0, 11, what), -1);
        }
        for (int curve : NO_CURVES) {
            Seen.refused(DUE, "point(" + curve + ", 0, 0)", x -> x.point(curve, 0, 0), -1);
        }
        Seen.refused(DUE, "point(1, 7, 0)", x -> x.point(1, 7, 0), -1);
        DUE.same("point(1, 6, 0)", Seen.sample().point(1, 6, 0), -2);
    }

    /** "COUNT of n, or (places) PLACES of n, 1 .. 12." */
    private static void countedInside() {
        CurveShares x = Seen.sample();
        long[] counts = {12, 48, 324, 2496, 16572, 117936, 824052, 5760768, 40366188, 282453168, 1977327012, 13841440704L};
        long[] places = {12, 18, 104, 612, 3312, 19596, 117720, 719784, 4485096, 28243656, 179757000, 1153443360};
        long[] counts2 = {7, 15, 19, 83, 232, 795, 2149, 6323, 20197, 58950, 176359, 532043};
        long[] places2 = {7, 4, 4, 17, 45, 128, 306, 780, 2242, 5871, 16032, 44265};
        for (int n = 1; n <= 12; n++) {
            DUE.same("COUNT of " + n, x.counted(0, n, false), counts[n - 1]);
            DUE.same("PLACES of " + n, x.counted(0, n, true), places[n - 1]);
            DUE.same("g 2: COUNT of " + n, x.counted(1, n, false), counts2[n - 1]);
            DUE.same("g 2: PLACES of " + n, x.counted(1, n, true), places2[n - 1]);
        }
        CurveShares y = Due.on("prime 13; curve 0 1 0 0 0 1;");
        DUE.same("the greatest COUNT", y.counted(0, 12, false), 23298065815246L);
        DUE.same("the greatest PLACES", y.counted(0, 12, true), 1941505079332L);
        DUE.same("no PLACES of 2", Due.on("prime 3; curve 1 2 0 1;").counted(0, 2, true), 0);
        DUE.same("the least COUNT", Due.on(FAR_ALONE).counted(0, 1, false), 1);
    }

    /** "NONE: there is no such CURVE, or another n." */
    private static void countedOutside() {
        for (int n : new int[] {0, 13, -1, -12, Integer.MIN_VALUE, Integer.MAX_VALUE}) {
            Seen.refused(DUE, "counted(0, " + n + ", false)", x -> x.counted(0, n, false), -1);
            Seen.refused(DUE, "counted(0, " + n + ", true)", x -> x.counted(0, n, true), -1);
        }
        for (int curve : NO_CURVES) {
            Seen.refused(DUE, "counted(" + curve + ", 1, false)", x -> x.counted(curve, 1, false), -1);
            Seen.refused(DUE, "counted(" + curve + ", 12, true)", x -> x.counted(curve, 12, true), -1);
        }
    }

    /** "SHARE's coefficient of T to the i, 0 .. 2g, or (i NONE) their sum." */
    private static void shares() {
        CurveShares x = Seen.sample();
        int[] seven = {1, 4, 7};
        int[] genus2 = {1, 3, 7, 9, 9};
        for (int i = 0; i < 3; i++) {
            DUE.same("SHARE " + i, x.share(0, i), seven[i]);
        }
        for (int i = 0; i < 5; i++) {
            DUE.same("g 2: SHARE " + i, x.share(1, i), genus2[i]);
        }
        DUE.same("their sum", x.share(0, -1), 12);
        DUE.same("g 2: their sum", x.share(1, -1), 29);
        CurveShares y = Due.on(FAR_ALONE);
        DUE.same("a below 0", y.share(0, 1), -3);
        DUE.same("the least sum", y.share(0, -1), 1);
        CurveShares z = Due.on("prime 13; curve 1 0 0 0 0 2;");
        DUE.same("the greatest, of T to the 4th", z.share(0, 4), 169);
        DUE.same("a 0", z.share(0, 1) * 10 + z.share(0, 3), 0);
    }

    /** "-1000000: there is none such (of either)." */
    private static void shareNone() {
        for (int i : new int[] {3, 4, -2, Integer.MIN_VALUE, Integer.MAX_VALUE}) {
            Seen.refused(DUE, "share(0, " + i + ")", x -> x.share(0, i), -1000000);
        }
        for (int i : new int[] {5, 6, -2}) {
            Seen.refused(DUE, "share(1, " + i + ")", x -> x.share(1, i), -1000000);
        }
        for (int curve : NO_CURVES) {
            Seen.refused(DUE, "share(" + curve + ", 0)", x -> x.share(curve, 0), -1000000);
            Seen.refused(DUE, "share(" + curve + ", -1)", x -> x.share(curve, -1), -1000000);
        }
    }

    /** "GAPS of POINT k: the i-th, from 0 on." */
    private static void gaps() {
        CurveShares x = Seen.sample();
        for (int k = 0; k < 12; k++) {
            DUE.same("g 1: gap of " + k, x.gap(0, k, 0), 1);
        }
        for (int k = 0; k < 7; k++) {
            DUE.same("g 2: first gap of " + k, x.gap(1, k, 0), 1);
            DUE.same("g 2: second gap of " + k, x.gap(1, k, 1), k == 6 ? 3 : 2);
        }
        CurveShares y = Due.on("prime 5; curve 0 4 0 0 0 1;");
        for (int k = 0; k < 6; k++) {
            DUE.same("FIXED: second gap of " + k, y.gap(0, k, 1), 3);
        }
    }

    /** "NONE: there are not so many, or there is none such (of any)." */
    private static void gapNone() {
        for (int i : new int[] {1, 2, -1, Integer.MIN_VALUE, Integer.MAX_VALUE}) {
            Seen.refused(DUE, "gap(0, 0, " + i + ")", x -> x.gap(0, 0, i), -1);
            Seen.refused(DUE, "gap(0, 6, " + i + ")", x -> x.gap(0, 6, i), -1);
        }
        for (int i : new int[] {2, 3, -1}) {
            Seen.refused(DUE, "gap(1, 0, " + i + ")", x -> x.gap(1, 0, i), -1);
            Seen.refused(DUE, "gap(1, 6, " + i + ")", x -> x.gap(1, 6, i), -1);
        }
        for (int k : new int[] {12, -1, Integer.MIN_VALUE, Integer.MAX_VALUE}) {
            Seen.refused(DUE, "gap(0, " + k + ", 0)", x -> x.gap(0, k, 0), -1);
        }
        for (int curve : NO_CURVES) {
            Seen.refused(DUE, "gap(" + curve + ", 0, 0)", x -> x.gap(curve, 0, 0), -1);
        }
    }

    /** "TORSION of d, 1 .. 99, or (d 0) the greatest ORDER of any CLASS." Here CLASSES are those of a 2 and a 6. */
    private static void torsions() {
        CurveShares x = Due.on(SEVEN);
        for (int d = 1; d <= 99; d++) {
            DUE.same("TORSION of " + d, x.torsion(0, d), (d % 2 == 0 ? 4 : 1) * (d % 3 == 0 ? 3 : 1));
        }
        DUE.same("the greatest ORDER", x.torsion(0, 0), 6);
        CurveShares y = Due.on(FAR_ALONE);
        DUE.same("one CLASS: TORSION of 1", y.torsion(0, 1), 1);
        DUE.same("one CLASS: TORSION of 99", y.torsion(0, 99), 1);
        DUE.same("one CLASS: the greatest ORDER", y.torsion(0, 0), 1);
        CurveShares z = Due.on(GENUS_2);
        DUE.same("29 CLASSES: TORSION of 28", z.torsion(0, 28), 1);
        DUE.same("29 CLASSES: TORSION of 29", z.torsion(0, 29), 29);
        DUE.same("29 CLASSES: TORSION of 87", z.torsion(0, 87), 29);
        DUE.same("29 CLASSES: the greatest ORDER", z.torsion(0, 0), 29);
    }

    /** "NONE: there is no such CURVE, or another d." */
    private static void torsionNone() {
        for (int d : new int[] {-1, 100, -99, Integer.MIN_VALUE, Integer.MAX_VALUE}) {
            Seen.refused(DUE, "torsion(0, " + d + ")", x -> x.torsion(0, d), -1);
        }
        for (int curve : NO_CURVES) {
            Seen.refused(DUE, "torsion(" + curve + ", 0)", x -> x.torsion(curve, 0), -1);
            Seen.refused(DUE, "torsion(" + curve + ", 1)", x -> x.torsion(curve, 1), -1);
        }
    }

    /** "How many (k NONE, what 0); of the k-th, what 0: a, 1: b, 2: c"; "a, c not 0, by a, then b, then c". */
    private static void changes() {
        CurveShares x = Due.on(SEVEN);
        int[][] due = {{1, 0, 1}, {1, 0, 6}, {2, 0, 1}, {2, 0, 6}, {4, 0, 1}, {4, 0, 6}};
        DUE.same("how many", x.change(0, -1, 0), 6);
        for (int k = 0; k < 6; k++) {
            for (int what = 0; what < 3; what++) {
                DUE.same("CHANGE " + k + " " + what, x.change(0, k, what), due[k][what]);
            }
        }
        // p being 3, x * x * x - x stays the same by x + b, and becomes its negative, beside the 1, by -x + b.
        CurveShares y = Due.on("prime 3; curve 1 2 0 1;");
        DUE.same("by b: how many", y.change(0, -1, 0), 6);
        for (int k = 0; k < 6; k++) {
            DUE.same("by b: a of " + k, y.change(0, k, 0), 1);
            DUE.same("by b: b of " + k, y.change(0, k, 1), k / 2);
            DUE.same("by b: c of " + k, y.change(0, k, 2), k % 2 + 1);
        }
        CurveShares z = Due.on("curve 1 2 0 0 0 1;");
        DUE.same("there are two at least", z.change(0, -1, 0), 2);
        DUE.same("the last one's c", z.change(0, 1, 2), 6);
        DUE.same("behind it", z.change(0, 2, 0), -1);
    }

    /** "NONE: there is none such (of any), or for another what." */
    private static void changeNone() {
        for (int k : new int[] {6, 7, -2, Integer.MIN_VALUE, Integer.MAX_VALUE}) {
            for (int what = 0; what < 3; what++) {
                int of = what;
                Seen.refused(DUE, "change(0, " + k + ", " + what + ")", x -> x.change(0, k, of), -1);
            }
        }
        for (int what : new int[] {3, -1, Integer.MIN_VALUE, Integer.MAX_VALUE}) {
            Seen.refused(DUE, "change(0, 0, " + what + ")", x -> x.change(0, 0, what), -1);
            Seen.refused(DUE, "change(0, NONE, " + what + ")", x -> x.change(0, -1, what), -1);
        }
        Seen.refused(DUE, "change(0, NONE, 1)", x -> x.change(0, -1, 1), -1);
        Seen.refused(DUE, "change(0, NONE, 2)", x -> x.change(0, -1, 2), -1);
        for (int curve : NO_CURVES) {
            Seen.refused(DUE, "change(" + curve + ", NONE, 0)", x -> x.change(curve, -1, 0), -1);
            Seen.refused(DUE, "change(" + curve + ", 0, 0)", x -> x.change(curve, 0, 0), -1);
        }
    }

    private static boolean isLike(String one, String two) {
        CurveShares x = Due.on(one);
        Due.tell(x, 0, -1, two);
        boolean like = x.like(0, 1);
        DUE.same(two + " and " + one, x.like(1, 0), like);
        return like;
    }

    /** "Whether there are a, b, c with that, F of the second one at the left side." */
    private static void likes() {
        CurveShares x = Due.on(SEVEN);
        DUE.same("like itself", x.like(0, 0), true);
        DUE.same("by b alone", isLike(SEVEN, "curve 2 3 3 1;"), true);
        DUE.same("by a alone", isLike(SEVEN, "curve 1 0 0 6;"), true);
        DUE.same("by c alone", isLike(SEVEN, "curve 4 0 0 4;"), true);
        DUE.same("by c and its negative", isLike(SEVEN, "curve 2 0 0 2;"), true);
        DUE.same("the TWIST", isLike(SEVEN, "curve 3 0 0 3;"), false);
        DUE.same("another one", isLike(SEVEN, "curve 1 1 0 1;"), false);
        DUE.same("g 2, by b", isLike("curve 1 0 0 0 0 1;", "curve 2 5 3 3 5 1;"), true);
        DUE.same("g 2, another one", isLike("curve 1 0 0 0 0 1;", "curve 1 2 0 0 0 1;"), false);
    }

    /** "False, too: there is none such (of either), or they have unlike p or degrees." */
    private static void likeFalse() {
        DUE.same("unlike p", isLike("prime 5; curve 0 1 0 1;", "prime 7; curve 0 1 0 1;"), false);
        DUE.same("unlike p, of degree 5", isLike("prime 11; curve 0 1 0 0 0 1;", "prime 13; curve 0 1 0 0 0 1;"), false);
        DUE.same("unlike degrees", isLike("curve 0 1 0 1;", "curve 0 1 0 0 0 1;"), false);
        for (int none : NO_CURVES) {
            Seen.refused(DUE, "like(0, " + none + ")", x -> x.like(0, none) ? 1 : 0, 0);
            Seen.refused(DUE, "like(" + none + ", 0)", x -> x.like(none, 0) ? 1 : 0, 0);
            Seen.refused(DUE, "like(" + none + ", " + none + ")", x -> x.like(none, none) ? 1 : 0, 0);
        }
    }

    /** "TWIST, what 0: that number, 1: its COUNT of 1, 2: its CLASSES": F times the least number that is no square. */
    private static void twists() {
        int[] primes = {3, 5, 7, 11, 13};
        int[] numbers = {2, 2, 3, 2, 2};
        for (int i = 0; i < 5; i++) {
            CurveShares x = Due.on("prime " + primes[i] + "; curve 0 1 0 1;");
            DUE.same("the least that is no square below " + primes[i], x.twist(0, 0), numbers[i]);
            DUE.same("both have so many", x.twist(0, 1) + x.counted(0, 1, false), 2 * primes[i] + 2);
        }
        CurveShares x = Seen.sample();
        DUE.same("COUNT of 1", x.twist(0, 1), 4);
        DUE.same("CLASSES", x.twist(0, 2), 4);
        DUE.same("g 2: COUNT of 1", x.twist(1, 1), 1);
        DUE.same("g 2: CLASSES", x.twist(1, 2), 5);
        CurveShares y = Due.on(FAR_ALONE);
        DUE.same("of FAR alone: COUNT of 1", y.twist(0, 1), 7);
        DUE.same("of FAR alone: CLASSES", y.twist(0, 2), 7);
    }

    /** "NONE: there is no such CURVE, or for another what." */
    private static void twistNone() {
        for (int what : new int[] {3, -1, Integer.MIN_VALUE, Integer.MAX_VALUE}) {
            Seen.refused(DUE, "twist(0, " + what + ")", x -> x.twist(0, what), -1);
        }
        for (int curve : NO_CURVES) {
            for (int what = 0; what < 3; what++) {
                int of = what;
                Seen.refused(DUE, "twist(" + curve + ", " + what + ")", x -> x.twist(curve, of), -1);
            }
        }
    }
}
