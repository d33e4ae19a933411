import java.util.List;
import java.util.Random;

/** Promises 6 to 9 and 12: what is told of CURVES, SUMS, FUNCTIONS and POINTS. */
public final class TellingTest {
    private static final Due DUE = new Due();

    public static void main(String[] args) {
        curves();
        sums();
        functions();
        DUE.end();
    }

    private static void curves() {
        CurveShares first = Due.on("");
        int[] due = {7, 3, 1, 12, 4, 12, 4, -1, -1, -1, 1, 0, 0, 1, -1, -1, -1};
        for (int what = 0; what < due.length; what++) {
            DUE.same("the curve at first, what " + what, first.curve(0, what), due[what]);
        }
        DUE.same("what -1", first.curve(0, -1), -1);
        DUE.same("what MAX", first.curve(0, Integer.MAX_VALUE), -1);
        DUE.same("curve 1", first.curve(1, 0), -1);
        DUE.same("curve -1", first.curve(-1, 0), -1);
        Random random = new Random(2);
        for (int round = 0; round < 300; round++) {
            Naive naive = Naive.random(random);
            CurveShares x = Due.on("curve 1 0 0 1 0 1; prime 3;" + naive.text());
            DUE.same("p", x.curve(0, 0), naive.p);
            DUE.same("degree", x.curve(0, 1), naive.f.length - 1);
            DUE.same("genus", x.curve(0, 2), naive.genus);
            DUE.same("branched", x.curve(0, 6), 2 * naive.genus + 2);
            for (int i = 0; i < 8; i++) {
                DUE.same("coefficient " + i, x.curve(0, 10 + i), i < naive.f.length ? naive.f[i] : -1);
            }
            points(x, naive);
        }
    }

    private static void points(CurveShares x, Naive naive) {
        List<int[]> points = naive.points();
        int far = points.size();
        int fixed = 1;
        DUE.same("points", x.curve(0, 3), far + 1);
        for (int k = 0; k < far; k++) {
            DUE.same("X", x.point(0, k, 0), points.get(k)[0]);
            DUE.same("Y", x.point(0, k, 1), points.get(k)[1]);
            DUE.same("fixed", x.point(0, k, 2), points.get(k)[1] == 0 ? 1 : 0);
            fixed += points.get(k)[1] == 0 ? 1 : 0;
        }
        DUE.same("all fixed", x.curve(0, 4), fixed);
        DUE.same("FAR's X", x.point(0, far, 0), -2);
        DUE.same("FAR's Y", x.point(0, far, 1), -2);
        DUE.same("FAR is fixed", x.point(0, far, 2), 1);
        DUE.same("behind FAR", x.point(0, far + 1, 0), -1);
        DUE.same("before the first", x.point(0, -1, 0), -1);
        DUE.same("what 3", x.point(0, 0, 3), -1);
        DUE.same("what -1", x.point(0, 0, -1), -1);
        DUE.same("no curve", x.point(1, 0, 0), -1);
        for (int a = 0; a <= 12; a++) {
            for (int b = 0; b <= 12; b++) {
                boolean on = a < naive.p && b < naive.p && naive.value(naive.f, a) == b * b % naive.p;
                int sum = x.count(1) == 0 ? -1 : 0;
                Due.tell(x, 1, sum, "far 3; at " + a + " " + b + " 0;");
                DUE.same("fits " + a + " " + b, x.fits(0, 0), on);
                DUE.same("room", x.room(0, 0, 0), on ? 3 : -1000);
            }
        }
        DUE.same("no sum", x.fits(0, 1), false);
        DUE.same("no curve", x.fits(1, 0), false);
        Due.tell(x, 1, 0, "");
        DUE.same("an empty one fits", x.fits(0, 0), true);
    }

    private static void sums() {
        CurveShares x = new CurveShares();
        Due.tell(x, 1, -1, "at 0 1 -5; far 4; at 12 11 5; far -9; at 0 1 2;");
        int[][] entries = {{0, 1, -5}, {12, 11, 5}, {0, 1, 2}};
        DUE.same("entries", x.sum(0, 0), 3);
        DUE.same("far", x.sum(0, 1), -9);
        for (int what = -20; what < 60; what++) {
            int part = what / 10 - 1;
            int entry = what % 10;
            boolean is = what >= 10 && part < 3 && entry < 3;
            if (what != 0 && what != 1) {
                DUE.same("sum what " + what, x.sum(0, what), is ? entries[entry][part] : -100);
            }
        }
        DUE.same("no sum", x.sum(1, 0), -100);
        DUE.same("no sum", x.sum(-1, 0), -100);
        Due.tell(x, 1, -1, "at 1 2 3;".repeat(8));
        DUE.same("entry 7", x.sum(1, 37), 3);
        DUE.same("entry 8", x.sum(1, 38), -100);
        DUE.same("far at first", x.sum(1, 1), 0);
        Due.tell(x, 1, 1, "far 2;");
        DUE.same("the old entries are gone", x.sum(1, 0), 0);
        DUE.same("the old entries are gone", x.sum(1, 10), -100);
    }

    private static void functions() {
        CurveShares x = new CurveShares();
        Due.tell(x, 2, -1, "x 0 1; x 4 12; y 2 11; x 0 5; y 0 3;");
        int[] a = {5, 0, 0, 0, 12};
        int[] b = {3, 0, 11};
        for (int i = -2; i < 8; i++) {
            DUE.same("A " + i, x.function(0, false, i), i >= 0 && i < 5 ? a[i] : -1);
            DUE.same("B " + i, x.function(0, true, i), i >= 0 && i < 3 ? b[i] : -1);
        }
        DUE.same("no function", x.function(1, false, 0), -1);
        DUE.same("no function", x.function(-1, false, 0), -1);
        Due.tell(x, 2, 0, "");
        DUE.same("0 at first", x.function(0, false, 4), 0);
    }
}
