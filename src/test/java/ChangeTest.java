import java.util.ArrayList;
import java.util.List;
import java.util.Random;

/** Promises 25 and 26: CHANGES and LIKE. */
public final class ChangeTest {
    private static final Due DUE = new Due();

    public static void main(String[] args) {
        Random random = new Random(7);
        for (int round = 0; round < 400; round++) {
            Naive one = Naive.random(random);
            Naive two = round % 2 == 0 ? moved(one, random) : Naive.random(random);
            CurveShares x = Due.on(one.text());
            Due.tell(x, 0, -1, two.text());
            check(x, 0, one);
            check(x, 1, two);
            boolean like = one.p == two.p && one.genus == two.genus && !changes(two, one).isEmpty();
            DUE.same(one.text() + two.text() + " like", x.like(0, 1), like);
            DUE.same(one.text() + two.text() + " like", x.like(1, 0), like);
            DUE.same("like itself", x.like(0, 0), true);
        }
        wrong();
        DUE.end();
    }

    private static Naive moved(Naive one, Random random) {
        int factor = 1 + random.nextInt(one.p - 1);
        int[] line = {random.nextInt(one.p), 1 + random.nextInt(one.p - 1)};
        int[] f = composed(one, line);
        for (int i = 0; i < f.length; i++) {
            f[i] = f[i] * factor % one.p;
        }
        return new Naive(one.p, f);
    }

    private static int[] composed(Naive one, int[] line) {
        int[] sum = new int[one.f.length];
        int[] power = {1};
        for (int c : one.f) {
            for (int i = 0; i < power.length; i++) {
                sum[i] = (sum[i] + c * power[i]) % one.p;
            }
            power = Naive.product(one.p, power, line);
        }
        return sum;
    }

    private static List<int[]> changes(Naive left, Naive right) {
        List<int[]> all = new ArrayList<>();
        for (int a = 1; a < left.p; a++) {
            for (int b = 0; b < left.p; b++) {
                int[] f = composed(left, new int[] {b, a});
                for (int c = 1; c < left.p; c++) {
                    boolean is = true;
                    for (int i = 0; i < f.length; i++) {
                        is &= f[i] == c * c * right.f[i] % left.p;
                    }
                    if (is) {
                        all.add(new int[] {a, b, c});
                    }
                }
            }
        }
        return all;
    }

    private static void check(CurveShares x, int curve, Naive naive) {
        List<int[]> due = changes(naive, naive);
        DUE.same(naive.text() + " changes", x.change(curve, -1, 0), due.size());
        for (int k = 0; k < due.size(); k++) {
            for (int what = 0; what < 3; what++) {
                DUE.same(naive.text() + " change " + k, x.change(curve, k, what), due.get(k)[what]);
            }
            DUE.same("what 3", x.change(curve, k, 3), -1);
            DUE.same("what -1", x.change(curve, k, -1), -1);
        }
        DUE.same("behind the last", x.change(curve, due.size(), 0), -1);
    }

    private static void wrong() {
        CurveShares x = Due.on("");
        DUE.same("k NONE, what 1", x.change(0, -1, 1), -1);
        DUE.same("k NONE, what 2", x.change(0, -1, 2), -1);
        DUE.same("k -2", x.change(0, -2, 0), -1);
        DUE.same("k MIN", x.change(0, Integer.MIN_VALUE, 0), -1);
        DUE.same("k MAX", x.change(0, Integer.MAX_VALUE, 0), -1);
        DUE.same("no curve", x.change(1, -1, 0), -1);
        DUE.same("no second", x.like(0, 1), false);
        DUE.same("no first", x.like(1, 0), false);
        DUE.same("neither", x.like(-1, 2), false);
        Due.tell(x, 0, -1, "prime 11; curve 1 0 0 1;");
        DUE.same("unlike p", x.like(0, 1), false);
        Due.tell(x, 0, 1, "prime 7; curve 1 0 0 0 0 1;");
        DUE.same("unlike degrees", x.like(0, 1), false);
        DUE.same("unlike degrees", x.like(1, 0), false);
        Due.tell(x, 0, 1, "curve 3 0 0 3;");
        DUE.same("a twist", x.like(0, 1), false);
        Due.tell(x, 0, 1, "curve 2 0 0 2;");
        DUE.same("by c", x.like(0, 1), true);
    }
}
