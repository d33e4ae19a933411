import java.util.Random;

/** Promises 10, 11 and 27, and CLASSES of promise 6: by going through greater fields and through all U, V. */
public final class CountTest {
    private static final Due DUE = new Due();

    public static void main(String[] args) {
        Random random = new Random(3);
        for (int round = 0; round < 60; round++) {
            Naive naive = Naive.random(random);
            CurveShares x = Due.on(naive.text());
            counts(x, naive, round < 25 ? 3000 : 200);
            shares(x, naive);
            twists(x, naive);
        }
        wrong();
        DUE.end();
    }

    private static void counts(CurveShares x, Naive naive, int most) {
        int size = naive.p;
        for (int n = 1; n <= 6 && size <= most; n++, size *= naive.p) {
            DUE.same(naive.text() + " count " + n, x.counted(0, n, false), new Greater(naive.p, n).points(naive.f));
        }
        for (int n = 1; n <= 12; n++) {
            long all = 0;
            for (int d = 1; d <= n; d++) {
                if (n % d == 0) {
                    all += d * x.counted(0, d, true);
                }
            }
            DUE.same(naive.text() + " places " + n, all, x.counted(0, n, false));
        }
    }

    private static void shares(CurveShares x, Naive naive) {
        int sum = 0;
        for (int i = 0; i <= 2 * naive.genus; i++) {
            sum += x.share(0, i);
        }
        DUE.same("share's sum", x.share(0, -1), sum);
        DUE.same("share at 0", x.share(0, 0), 1);
        DUE.same("share at 1", x.share(0, 1), naive.points().size() - naive.p);
        DUE.same("share at 2g", x.share(0, 2 * naive.genus), naive.genus == 1 ? naive.p : naive.p * naive.p);
        if (naive.genus == 2) {
            DUE.same("share at 3", x.share(0, 3), naive.p * x.share(0, 1));
        }
        DUE.same("share behind", x.share(0, 2 * naive.genus + 1), -1000000);
        DUE.same("share -2", x.share(0, -2), -1000000);
        int classes = classes(naive);
        DUE.same(naive.text() + " classes", x.curve(0, 5), classes);
        DUE.same(naive.text() + " share's sum", x.share(0, -1), classes);
    }

    private static void twists(CurveShares x, Naive naive) {
        int least = 1;
        for (boolean square = true; square; ) {
            least++;
            square = false;
            for (int y = 0; y < naive.p; y++) {
                square |= y * y % naive.p == least;
            }
        }
        int[] f = naive.f.clone();
        for (int i = 0; i < f.length; i++) {
            f[i] = f[i] * least % naive.p;
        }
        Naive twisted = new Naive(naive.p, f);
        DUE.same("twist's number", x.twist(0, 0), least);
        DUE.same("twist's count", x.twist(0, 1), twisted.points().size() + 1);
        DUE.same("twist's classes", x.twist(0, 2), classes(twisted));
        DUE.same("twist 3", x.twist(0, 3), -1);
        DUE.same("twist -1", x.twist(0, -1), -1);
    }

    private static int classes(Naive naive) {
        int p = naive.p;
        int all = 1 + naive.points().size();
        if (naive.genus == 1) {
            return all;
        }
        for (int n = 0; n < p * p * p * p; n++) {
            int[] u = {n % p, n / p % p, 1};
            int[] v = {n / p / p % p, n / p / p / p};
            if (Naive.degree(Naive.rest(p, Naive.minus(p, naive.f, Naive.product(p, v, v)), u)) < 0) {
                all++;
            }
        }
        return all;
    }

    private static void wrong() {
        CurveShares x = Due.on("prime 13; curve 1 0 0 1;");
        DUE.same("n 0", x.counted(0, 0, false), -1);
        DUE.same("n 13", x.counted(0, 13, true), -1);
        DUE.same("n 12 is great", x.counted(0, 12, false) > 1L << 40, true);
        DUE.same("no curve", x.counted(1, 1, false), -1);
        DUE.same("no curve", x.counted(-1, 1, false), -1);
        DUE.same("no curve", x.share(1, 0), -1000000);
        DUE.same("no curve", x.twist(1, 0), -1);
        DUE.same("no curve", x.curve(1, 5), -1);
    }

    /** The field of p to the n: rows of n numbers, by a polynomial of which no lower one is a factor. */
    private static final class Greater {
        private final int p;
        private final int n;
        private final int size;
        private final int[] modulus;

        Greater(int p, int n) {
            this.p = p;
            this.n = n;
            int all = 1;
            for (int i = 0; i < n; i++) {
                all *= p;
            }
            size = all;
            modulus = findModulus();
        }

        private int[] findModulus() {
            for (int k = 0; k < size; k++) {
                int[] m = figures(k);
                int[] whole = new int[n + 1];
                System.arraycopy(m, 0, whole, 0, n);
                whole[n] = 1;
                if (isPrime(whole)) {
                    return whole;
                }
            }
            throw new IllegalStateException();
        }

        private boolean isPrime(int[] whole) {
            for (int d = 1; 2 * d <= n; d++) {
                int most = (int) Math.round(Math.pow(p, d));
                for (int k = 0; k < most; k++) {
                    int[] q = new int[d + 1];
                    int left = k;
                    for (int i = 0; i < d; i++) {
                        q[i] = left % p;
                        left /= p;
                    }
                    q[d] = 1;
                    if (Naive.degree(Naive.rest(p, whole, q)) < 0) {
                        return false;
                    }
                }
            }
            return true;
        }

        private int[] figures(int k) {
            int[] figures = new int[n];
            for (int i = 0; i < n; i++) {
                figures[i] = k % p;
                k /= p;
            }
            return figures;
        }

        private int number(int[] figures) {
            int k = 0;
            for (int i = Math.min(n, figures.length) - 1; i >= 0; i--) {
                k = k * p + figures[i];
            }
            return k;
        }

        private int product(int a, int b) {
            return number(Naive.rest(p, Naive.product(p, figures(a), figures(b)), modulus));
        }

        long points(int[] f) {
            int[] roots = new int[size];
            for (int y = 0; y < size; y++) {
                roots[product(y, y)]++;
            }
            long all = 1;
            for (int x = 0; x < size; x++) {
                int value = 0;
                for (int i = f.length - 1; i >= 0; i--) {
                    int[] figures = figures(product(value, x));
                    figures[0] = (figures[0] + f[i]) % p;
                    value = number(figures);
                }
                all += roots[value];
            }
            return all;
        }
    }

}
