/** The boundary cases of promises 8, 13 and 14, and of what "Terms" say there, a test for each sentence. */
public final class FunctionEdgeTest {
    private static final Due DUE = new Due();
    /** y * y = x * x * x + 1 below 7: POINT 0 is (0, 1), 1 is (0, 6), 6 is (3, 0), 11 is FAR. */
    private static final String SEVEN = "";
    /** g 2, below 3: POINT 0 is (0, 1), 1 is (0, 2), 6 is FAR. */
    private static final String GENUS_2 = "prime 3; curve 1 2 0 0 0 1;";
    private static final String FAR_ALONE = "prime 3; curve 2 2 0 1;";
    private static final int[] NO_CURVES = {2, -1, Integer.MIN_VALUE, Integer.MAX_VALUE};
    private static final int[] NO_FUNCTIONS = {3, -1, Integer.MIN_VALUE, Integer.MAX_VALUE};

    public static void main(String[] args) {
        parts();
        partNone();
        ordersAtPoints();
        ordersAtFixed();
        ordersAtFar();
        greatestOrders();
        orderNone();
        normParts();
        rationals();
        remainders();
        normNone();
        DUE.end();
    }

    private static CurveShares on(String curve, String function) {
        CurveShares x = Due.on(curve);
        if (Due.tell(x, 2, -1, function) != 0) {
            throw new IllegalStateException("no function: " + function);
        }
        return x;
    }

    /** "Of a FUNCTION the coefficient of a power in A, or (y) in B"; "0 at first". */
    private static void parts() {
        CurveShares x = on(SEVEN, "");
        Due.tell(x, 2, -1, "x 0 12; x 1 11; x 2 10; x 3 9; x 4 8; y 0 7; y 1 6; y 2 5;");
        for (int i = 0; i <= 4; i++) {
            DUE.same("A at first " + i, x.function(0, false, i), 0);
            DUE.same("A " + i, x.function(1, false, i), 12 - i);
        }
        for (int i = 0; i <= 2; i++) {
            DUE.same("B at first " + i, x.function(0, true, i), 0);
            DUE.same("B " + i, x.function(1, true, i), 7 - i);
        }
        CurveShares y = new CurveShares();
        Due.tell(y, 2, -1, "x 4 12;");
        DUE.same("without a CURVE", y.function(0, false, 4), 12);
    }

    /** "NONE: there is none such (of any)." */
    private static void partNone() {
        for (int power : new int[] {5, -1, 6, Integer.MIN_VALUE, Integer.MAX_VALUE}) {
            Seen.refused(DUE, "function(0, false, " + power + ")", x -> x.function(0, false, power), -1);
            Seen.refused(DUE, "function(0, true, " + power + ")", x -> x.function(0, true, power), -1);
        }
        Seen.refused(DUE, "function(0, true, 3)", x -> x.function(0, true, 3), -1);
        Seen.refused(DUE, "function(0, true, 4)", x -> x.function(0, true, 4), -1);
        for (int function : NO_FUNCTIONS) {
            Seen.refused(DUE, "function(" + function + ", false, 0)", x -> x.function(function, false, 0), -1);
            Seen.refused(DUE, "function(" + function + ", true, 0)", x -> x.function(function, true, 0), -1);
        }
    }

    private static int order(String curve, String function, int k) {
        return on(curve, function).order(0, 0, k);
    }

    /** "How often it is 0 there: in T, a number that is 0 there once (x less the POINT's)." */
    private static void ordersAtPoints() {
        DUE.same("1", order(SEVEN, "x 0 1;", 0), 0);
        DUE.same("x at (0, 1)", order(SEVEN, "x 1 1;", 0), 1);
        DUE.same("x at (0, 6)", order(SEVEN, "x 1 1;", 1), 1);
        DUE.same("x at (1, 3)", order(SEVEN, "x 1 1;", 2), 0);
        DUE.same("x to the 4th at (0, 1)", order(SEVEN, "x 4 1;", 0), 4);
        // y * y - 1 is x * x * x: y - 1 is 0 three times where y is 1, and y + 1 where y is -1.
        DUE.same("y - 1 at (0, 1)", order(SEVEN, "y 0 1; x 0 6;", 0), 3);
        DUE.same("y - 1 at (0, 6)", order(SEVEN, "y 0 1; x 0 6;", 1), 0);
        DUE.same("y + 1 at (0, 1)", order(SEVEN, "y 0 1; x 0 1;", 0), 0);
        DUE.same("y + 1 at (0, 6)", order(SEVEN, "y 0 1; x 0 1;", 1), 3);
        DUE.same("y at (0, 1)", order(SEVEN, "y 0 1;", 0), 0);
    }

    /** "Or y, if the POINT is FIXED": x less its own is 0 twice there, y once. */
    private static void ordersAtFixed() {
        DUE.same("x - 3 at (3, 0)", order(SEVEN, "x 1 1; x 0 4;", 6), 2);
        DUE.same("y at (3, 0)", order(SEVEN, "y 0 1;", 6), 1);
        DUE.same("x - 3 and y at (3, 0)", order(SEVEN, "x 1 1; x 0 4; y 0 1;", 6), 1);
        DUE.same("(x - 3) * y at (3, 0)", order(SEVEN, "y 1 1; y 0 4;", 6), 3);
        DUE.same("(x - 3) to the 4th at (3, 0)", order(SEVEN, "x 0 4; x 1 4; x 2 5; x 3 2; x 4 1;", 6), 8);
        DUE.same("x at (3, 0)", order(SEVEN, "x 1 1;", 6), 0);
    }

    /** "At FAR less than 0: x has there -2, y has -(2g + 1), of sums the least." */
    private static void ordersAtFar() {
        int[] b = {3, 5};
        int[] far = {11, 6};
        String[] curves = {SEVEN, GENUS_2};
        for (int g = 0; g < 2; g++) {
            DUE.same("1", order(curves[g], "x 0 1;", far[g]), 0);
            for (int i = 1; i <= 4; i++) {
                DUE.same("x to the " + i, order(curves[g], "x " + i + " 1; x 0 1;", far[g]), -2 * i);
            }
            for (int i = 0; i <= 2; i++) {
                DUE.same("y by x to the " + i, order(curves[g], "y " + i + " 1; x 0 1; x 1 1;", far[g]), -2 * i - b[g]);
            }
        }
        DUE.same("x to the 4th and x * x * y, g 1", order(SEVEN, "x 4 1; y 2 1;", 11), -8);
        DUE.same("x to the 4th and x * x * y, g 2", order(GENUS_2, "x 4 1; y 2 1;", 6), -9);
        DUE.same("x * x and y, g 1", order(SEVEN, "x 2 1; y 0 1;", 11), -4);
        DUE.same("x * x and y, g 2", order(GENUS_2, "x 2 1; y 0 1;", 6), -5);
        DUE.same("where FAR is the only one", order(FAR_ALONE, "x 1 1;", 0), -2);
    }

    /** The greatest ORDERS that a FUNCTION can have: as many as it has less at FAR. */
    private static void greatestOrders() {
        // NORM is x to the 9th by a number, and it is 0 at (0, 3) alone.
        CurveShares x = on("curve 2 1 5 6 2 1;", "x 0 1; x 2 1; x 3 2; x 4 6; y 0 2; y 1 3; y 2 1;");
        DUE.same("(0, 3) is POINT 0", x.point(0, 0, 0) * 10 + x.point(0, 0, 1), 3);
        DUE.same("9 times at (0, 3)", x.order(0, 0, 0), 9);
        DUE.same("not at (0, 4)", x.order(0, 0, 1), 0);
        DUE.same("-9 at FAR", x.order(0, 0, x.curve(0, 3) - 1), -9);
        DUE.same("RATIONAL 9", x.norm(0, 0, 1), 9);
        DUE.same("REST 0", x.norm(0, 0, 2), 0);
        for (int i = 0; i <= 9; i++) {
            DUE.same("NORM at " + i, x.norm(0, 0, 10 + i), i == 9 ? 6 : 0);
        }
        // The root of 1 + x * x * x begins with 1 + 4 * x * x * x, the next is of x to the 6th.
        DUE.same("y - 1 - 4 * x * x * x at (0, 1)", order(SEVEN, "y 0 1; x 0 6; x 3 3;", 0), 6);
        DUE.same("its ORDER at FAR", order(SEVEN, "y 0 1; x 0 6; x 3 3;", 11), -6);
        DUE.same("x * x * y at a FIXED one of X 0", order("curve 0 1 0 0 0 1;", "y 2 1;", 0), 5);
        DUE.same("x to the 4th at a FIXED one of X 0", order("curve 0 1 0 0 0 1;", "x 4 1;", 0), 8);
        DUE.same("both there", order("curve 0 1 0 0 0 1;", "x 4 1; y 2 1;", 0), 5);
    }

    /** "-100: the FUNCTION is 0, or there is none such (of any)." */
    private static void orderNone() {
        for (int k = 0; k < 12; k++) {
            int at = k;
            Seen.refused(DUE, "order of 0 at " + k, x -> x.order(0, 1, at), -100);
        }
        Seen.refused(DUE, "order of 0 by remainders", x -> x.order(0, 2, 0), -100);
        DUE.same("not 0 on the other CURVE", Seen.sample().order(1, 2, 0), 0);
        for (int k : new int[] {12, -1, 27, Integer.MIN_VALUE, Integer.MAX_VALUE}) {
            Seen.refused(DUE, "order(0, 0, " + k + ")", x -> x.order(0, 0, k), -100);
        }
        for (int function : NO_FUNCTIONS) {
            Seen.refused(DUE, "order(0, " + function + ", 0)", x -> x.order(0, function, 0), -100);
        }
        for (int curve : NO_CURVES) {
            Seen.refused(DUE, "order(" + curve + ", 0, 0)", x -> x.order(curve, 0, 0), -100);
        }
        DUE.same("behind FAR, being alone", order(FAR_ALONE, "x 1 1;", 1), -100);
    }

    private static void norm(String curve, String function, int... due) {
        CurveShares x = on(curve, function);
        DUE.same("NORM's degree of " + function, x.norm(0, 0, 0), due.length - 1);
        for (int i = 0; i <= 9; i++) {
            DUE.same("NORM of " + function + " at " + i, x.norm(0, 0, 10 + i), i < due.length ? due[i] : 0);
        }
        DUE.same("behind NORM's 9th of " + function, x.norm(0, 0, 20), -1);
        DUE.same("before NORM's first of " + function, x.norm(0, 0, 9), -1);
    }

    /** "What 0: NORM's degree, 10 + i: NORM's coefficient of x to the i (i to 9)"; "NORM: A * A - F * B * B". */
    private static void normParts() {
        norm(SEVEN, "x 0 1;", 1);
        norm(SEVEN, "x 0 3;", 2);
        norm(SEVEN, "x 1 1;", 0, 0, 1);
        norm(SEVEN, "y 0 1;", 6, 0, 0, 6);
        norm(SEVEN, "y 0 1; x 0 1;", 0, 0, 0, 6);
        norm(SEVEN, "x 4 2;", 0, 0, 0, 0, 0, 0, 0, 0, 4);
        norm(SEVEN, "y 2 1;", 0, 0, 0, 0, 6, 0, 0, 6);
        norm(GENUS_2, "y 2 1;", 0, 0, 0, 0, 2, 1, 0, 0, 0, 2);
        norm(GENUS_2, "y 2 2; x 4 1;", 0, 0, 0, 0, 2, 1, 0, 0, 1, 2);
        norm(SEVEN, "x 0 8;", 1);
        norm(SEVEN, "x 0 1; x 4 7; y 2 7;", 1);
    }

    /** "RATIONAL: its ORDERS at all POINTS but FAR, together; REST: what the ORDERS at all POINTS together are below 0." */
    private static void rationals() {
        int[][] due = {{0, 0}, {2, 0}, {3, 0}, {3, 0}, {0, 4}};
        String[] functions = {"x 0 1;", "x 1 1;", "y 0 1;", "y 0 1; x 0 6;", "x 2 1; x 0 1;"};
        for (int i = 0; i < functions.length; i++) {
            CurveShares x = on(SEVEN, functions[i]);
            DUE.same("RATIONAL of " + functions[i], x.norm(0, 0, 1), due[i][0]);
            DUE.same("REST of " + functions[i], x.norm(0, 0, 2), due[i][1]);
        }
        CurveShares x = on(FAR_ALONE, "x 4 1; y 2 1;");
        DUE.same("RATIONAL without POINTS but FAR", x.norm(0, 0, 1), 0);
        DUE.same("REST without POINTS but FAR", x.norm(0, 0, 2), 8);
        CurveShares y = on(GENUS_2, "y 2 1;");
        DUE.same("g 2: RATIONAL", y.norm(0, 0, 1), 4);
        DUE.same("g 2: REST", y.norm(0, 0, 2), 5);
    }

    /** "Numbers being those below p, sums and products by remainders": the same FUNCTION is another one on another CURVE. */
    private static void remainders() {
        CurveShares x = on(SEVEN, "x 0 12; x 3 7; y 0 8;");
        Due.tell(x, 0, -1, "prime 13; curve 1 0 0 1;");
        DUE.same("told as it was", x.function(0, false, 3), 7);
        DUE.same("below 7 at FAR", x.order(0, 0, 11), -3);
        DUE.same("below 13 at FAR", x.order(1, 0, x.curve(1, 3) - 1), -6);
        DUE.same("below 7 its NORM has", x.norm(0, 0, 0), 3);
        DUE.same("below 13 its NORM has", x.norm(1, 0, 0), 6);
    }

    /** "NONE: the FUNCTION is 0, there is none such (of either), or for another what." */
    private static void normNone() {
        for (int what : new int[] {-1, 3, 4, 9, 20, 21, Integer.MIN_VALUE, Integer.MAX_VALUE}) {
            Seen.refused(DUE, "norm(0, 0, " + what + ")", x -> x.norm(0, 0, what), -1);
        }
        for (int what : new int[] {0, 1, 2, 10, 19}) {
            Seen.refused(DUE, "norm of 0, what " + what, x -> x.norm(0, 1, what), -1);
            Seen.refused(DUE, "norm of 0 by remainders, what " + what, x -> x.norm(0, 2, what), -1);
            for (int function : NO_FUNCTIONS) {
                Seen.refused(DUE, "norm(0, " + function + ", " + what + ")", x -> x.norm(0, function, what), -1);
            }
            for (int curve : NO_CURVES) {
                Seen.refused(DUE, "norm(" + curve + ", 0, " + what + ")", x -> x.norm(curve, 0, what), -1);
            }
        }
    }
}
