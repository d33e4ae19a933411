import java.util.ArrayList;
import java.util.List;
import java.util.Random;

/** A curve reckoned again in the plainest way, beside the class under test. */
final class Naive {
    static final int[] PRIMES = {3, 5, 7, 11, 13};
    final int p;
    final int[] f;
    final int genus;

    Naive(int p, int[] f) {
        this.p = p;
        this.f = f;
        this.genus = f.length == 6 ? 2 : 1;
    }

    /** A random curve without a double root, over any field. */
    static Naive random(Random random) {
        for (;;) {
            int p = PRIMES[random.nextInt(5)];
            int[] f = new int[random.nextBoolean() ? 4 : 6];
            for (int i = 0; i < f.length; i++) {
                f[i] = random.nextInt(p);
            }
            if (f[f.length - 1] != 0 && !hasSquareFactor(p, f)) {
                return new Naive(p, f);
            }
        }
    }

    /** Tries the squares of all polynomials of degree 1 and 2: a square factor of F has one of these in it. */
    static boolean hasSquareFactor(int p, int[] f) {
        for (int a = 0; a < p; a++) {
            int[] q = {a, 1};
            if (degree(rest(p, f, product(p, q, q))) < 0) {
                return true;
            }
            for (int b = 0; b < p; b++) {
                int[] r = {a, b, 1};
                if (degree(rest(p, f, product(p, r, r))) < 0) {
                    return true;
                }
            }
        }
        return false;
    }

    String text() {
        StringBuilder text = new StringBuilder("prime " + p + "; curve");
        for (int c : f) {
            text.append(' ').append(c);
        }
        return text.append(';').toString();
    }

    List<int[]> points() {
        List<int[]> all = new ArrayList<>();
        for (int x = 0; x < p; x++) {
            for (int y = 0; y < p; y++) {
                if (value(f, x) == y * y % p) {
                    all.add(new int[] {x, y});
                }
            }
        }
        return all;
    }

    int value(int[] poly, int x) {
        int value = 0;
        for (int i = poly.length - 1; i >= 0; i--) {
            value = Math.floorMod(value * x + poly[i], p);
        }
        return value;
    }

    /** ORDER of A + B y at (x, y): first what both have of x - X, then what the NORM has. */
    int order(int[] a, int[] b, int x, int y) {
        int[] a1 = a;
        int[] b1 = b;
        int both = 0;
        int[] line = {Math.floorMod(-x, p), 1};
        while (value(a1, x) == 0 && value(b1, x) == 0) {
            a1 = quotient(p, a1, line);
            b1 = quotient(p, b1, line);
            both++;
        }
        if (y == 0) {
            return 2 * both + (value(a1, x) != 0 ? 0 : 1);
        }
        if ((value(a1, x) + value(b1, x) * y) % p != 0) {
            return both;
        }
        int[] norm = norm(a1, b1);
        int more = 0;
        while (value(norm, x) == 0) {
            norm = quotient(p, norm, line);
            more++;
        }
        return both + more;
    }

    int orderFar(int[] a, int[] b) {
        int least = 0;
        if (degree(a) >= 0) {
            least = Math.min(least, -2 * degree(a));
        }
        if (degree(b) >= 0) {
            least = Math.min(least, -2 * degree(b) - 2 * genus - 1);
        }
        return least;
    }

    int[] norm(int[] a, int[] b) {
        return minus(p, product(p, a, a), product(p, f, product(p, b, b)));
    }

    static int degree(int[] a) {
        int degree = a.length - 1;
        while (degree >= 0 && a[degree] == 0) {
            degree--;
        }
        return degree;
    }

    static int[] product(int p, int[] a, int[] b) {
        int[] c = new int[Math.max(1, a.length + b.length - 1)];
        for (int i = 0; i < a.length; i++) {
            for (int j = 0; j < b.length; j++) {
                c[i + j] = (c[i + j] + a[i] * b[j]) % p;
            }
        }
        return c;
    }

    static int[] minus(int p, int[] a, int[] b) {
        int[] c = new int[Math.max(a.length, b.length)];
        for (int i = 0; i < c.length; i++) {
            c[i] = Math.floorMod((i < a.length ? a[i] : 0) - (i < b.length ? b[i] : 0), p);
        }
        return c;
    }

    static int[] rest(int p, int[] a, int[] by) {
        int[] c = a.clone();
        divide(p, c, by, new int[a.length + 1]);
        return c;
    }

    static int[] quotient(int p, int[] a, int[] by) {
        int[] c = a.clone();
        int[] quotient = new int[a.length + 1];
        divide(p, c, by, quotient);
        return quotient;
    }

    private static void divide(int p, int[] c, int[] by, int[] quotient) {
        int top = degree(by);
        int inverse = 1;
        while (inverse * by[top] % p != 1) {
            inverse++;
        }
        for (int i = c.length - 1; i >= top; i--) {
            int factor = c[i] * inverse % p;
            quotient[i - top] = factor;
            for (int j = 0; j <= top; j++) {
                c[i - top + j] = Math.floorMod(c[i - top + j] - factor * by[j], p);
            }
        }
    }
}
