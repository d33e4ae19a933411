import java.util.ArrayList;
import java.util.List;
import java.util.Random;

/** Promises 19 to 24: CLASSES, by ROOMS, by lines through POINTS (g 1) and by factors of F. */
public final class ClassTest {
    private static final Due DUE = new Due();

    public static void main(String[] args) {
        Random random = new Random(6);
        for (int round = 0; round < 3000; round++) {
            Naive naive = Naive.random(random);
            if (!naive.points().isEmpty()) {
                byRooms(naive, random);
            }
        }
        for (int round = 0; round < 400; round++) {
            Naive naive = Naive.random(random);
            byAdding(naive, random);
            torsions(naive);
            if (naive.genus == 1) {
                byLines(naive, random);
            }
        }
        edges();
        DUE.end();
    }

    private static int[] u(CurveShares x, int sum, int n) {
        return new int[] {x.times(0, sum, n, 0), x.times(0, sum, n, 1), x.times(0, sum, n, 2)};
    }

    private static int[] v(CurveShares x, int sum, int n) {
        return new int[] {x.times(0, sum, n, 3), x.times(0, sum, n, 4)};
    }

    /** U, V of a SUM must be where the first BASE row of the SUM less (DEGREE - g) times FAR has its other zeros. */
    private static void byRooms(Naive naive, Random random) {
        int p = naive.p;
        CurveShares x = Due.on(naive.text());
        RandomSum sum = new RandomSum(random, naive, 4);
        sum.far = 0;
        int n = random.nextInt(5) - 2;
        int affine = n * sum.degree();
        boolean canBe = naive.genus - affine >= -9 && naive.genus - affine <= 9;
        for (int[] entry : sum.entries) {
            canBe &= Math.abs(n * entry[2]) <= 5;
        }
        if (!canBe) {
            return;
        }
        Due.tell(x, 1, -1, sum.text());
        int[] u = u(x, 0, n);
        int[] v = v(x, 0, n);
        for (int[] entry : sum.entries) {
            entry[2] *= n;
        }
        sum.far = naive.genus - affine;
        Due.tell(x, 1, -1, sum.text());
        int most = 60;
        int[] a = new int[most];
        int[] b = new int[most];
        for (int i = 0; i < most; i++) {
            a[i] = Math.max(0, x.base(0, 1, 0, false, i));
            b[i] = Math.max(0, x.base(0, 1, 0, true, i));
        }
        String name = naive.text() + sum.text() + " times " + n;
        DUE.same(name + " has a room", x.room(0, 1, 1) >= 1, true);
        int[] above = naive.norm(a, b);
        int[] below = Naive.product(p, sum.under(), sum.under());
        int[] lines = {1};
        for (int[] entry : sum.entries) {
            int[] line = {Math.floorMod(-entry[0], p), 1};
            lines = Naive.product(p, lines, line);
            for (int i = 0; i < Math.abs(entry[2]); i++) {
                if (entry[2] > 0) {
                    above = Naive.product(p, above, line);
                } else {
                    below = Naive.product(p, below, line);
                }
            }
        }
        int[] due = monic(p, Naive.quotient(p, above, below));
        for (int i = 0; i < 3; i++) {
            DUE.same(name + " U " + i, u[i], i < due.length ? due[i] : 0);
        }
        isClass(naive, name, u, v);
        boolean apart = true;
        int[] both = Naive.product(p, lines, sum.under());
        for (int z = 0; z < p; z++) {
            apart &= naive.value(u, z) != 0 || naive.value(both, z) != 0;
        }
        if (apart) {
            int[] there = Naive.minus(p, a, Naive.minus(p, new int[1], Naive.product(p, b, v)));
            DUE.same(name + " V", Naive.degree(Naive.rest(p, there, u)), -1);
        }
    }

    private static int[] monic(int p, int[] a) {
        int[] b = a.clone();
        int factor = 1;
        while (factor * a[Naive.degree(a)] % p != 1) {
            factor++;
        }
        for (int i = 0; i < b.length; i++) {
            b[i] = a[i] * factor % p;
        }
        return b;
    }

    private static void isClass(Naive naive, String name, int[] u, int[] v) {
        int degree = Naive.degree(u);
        DUE.same(name + " U's degree", degree >= 0 && degree <= naive.genus, true);
        DUE.same(name + " U's lead", u[degree], 1);
        DUE.same(name + " V's degree", Naive.degree(v) < Math.max(degree, 1) && (degree > 0 || v[0] == 0), true);
        int[] left = Naive.minus(naive.p, naive.f, Naive.product(naive.p, v, v));
        DUE.same(name + " U divides", Naive.degree(Naive.rest(naive.p, left, u)), -1);
    }

    private static boolean isNothing(CurveShares x, int sum, int n) {
        return x.times(0, sum, n, 1) == 0 && x.times(0, sum, n, 2) == 0;
    }

    private static void byAdding(Naive naive, Random random) {
        CurveShares x = Due.on(naive.text());
        RandomSum one = new RandomSum(random, naive, 4);
        RandomSum two = new RandomSum(random, naive, 4);
        Due.tell(x, 1, -1, one.text());
        Due.tell(x, 1, -1, two.text());
        RandomSum both = new RandomSum(random, naive, 0);
        both.entries.addAll(one.entries);
        both.entries.addAll(two.entries);
        both.far = 0;
        Due.tell(x, 1, -1, both.text());
        String name = naive.text() + one.text() + two.text();
        for (int what = 0; what < 5; what++) {
            DUE.same(name + " added", x.added(0, 0, 1, what), x.times(0, 2, 1, what));
            DUE.same(name + " twice", x.added(0, 0, 0, what), x.times(0, 0, 2, what));
        }
        isClass(naive, name, u(x, 0, -99), v(x, 0, -99));
        int order = x.orderOf(0, 0);
        DUE.same(name + " order divides", x.curve(0, 5) % order, 0);
        DUE.same(name + " order divides the greatest", x.torsion(0, 0) % order, 0);
        for (int n = -99; n <= 99; n++) {
            DUE.same(name + " times " + n + " of order " + order, isNothing(x, 0, n), n % order == 0);
        }
        int log = x.log(0, 0, 1);
        for (int n = 0; n <= 99; n++) {
            boolean equal = true;
            for (int what = 0; what < 5; what++) {
                equal &= x.times(0, 0, n, what) == x.times(0, 1, 1, what);
            }
            if (equal) {
                DUE.same(name + " log is " + n + " or less", log >= 0 && log <= n && (n - log) % order == 0, true);
            } else {
                DUE.same(name + " log is not " + n, log != n, true);
            }
        }
        DUE.same(name + " log is below the order", log < order, true);
        DUE.same(name + " log of itself", x.log(0, 0, 0), order == 1 ? 0 : 1);
        sameness(x, name, one, two);
    }

    private static void sameness(CurveShares x, String name, RandomSum one, RandomSum two) {
        boolean alike = one.degree() == two.degree();
        for (int what = 0; what < 5; what++) {
            alike &= x.times(0, 0, 1, what) == x.times(0, 1, 1, what);
        }
        DUE.same(name + " same", x.same(0, 0, 1), alike);
        DUE.same(name + " same", x.same(0, 1, 0), alike);
        DUE.same(name + " same as itself", x.same(0, 0, 0), true);
        one.far = one.far == 9 ? 8 : one.far + 1;
        Due.tell(x, 1, 1, one.text());
        DUE.same(name + " of another degree", x.same(0, 0, 1), false);
        DUE.same(name + " of the same class", x.log(0, 1, 0), x.orderOf(0, 0) == 1 ? 0 : 1);
    }

    private static void torsions(Naive naive) {
        CurveShares x = Due.on(naive.text());
        String name = naive.text() + " torsion ";
        int all = x.curve(0, 5);
        int greatest = x.torsion(0, 0);
        DUE.same(name + "of 1", x.torsion(0, 1), 1);
        DUE.same(name + "of 2", x.torsion(0, 2), 1 << factors(naive) - 1);
        DUE.same(name + "greatest divides", all % greatest, 0);
        for (int d = 1; d <= 99; d++) {
            int of = x.torsion(0, d);
            DUE.same(name + d + " divides", all % of, 0);
            DUE.same(name + d + " is all", of == all, d % greatest == 0);
            int parts = 1;
            int left = d;
            for (int q = 2; q <= d; q++) {
                int power = 1;
                while (left % q == 0) {
                    left /= q;
                    power *= q;
                }
                parts *= power > 1 ? x.torsion(0, power) : 1;
            }
            DUE.same(name + d + " by parts", of, parts);
        }
        DUE.same(name + "100", x.torsion(0, 100), -1);
        DUE.same(name + "-1", x.torsion(0, -1), -1);
        DUE.same(name + "no curve", x.torsion(1, 1), -1);
    }

    /** How many factors F has that have none themselves. */
    private static int factors(Naive naive) {
        int p = naive.p;
        int found = 0;
        int[] left = naive.f;
        for (int d = 1; d <= 2; d++) {
            for (int k = 0; k < (d == 1 ? p : p * p); k++) {
                int[] q = d == 1 ? new int[] {k, 1} : new int[] {k % p, k / p, 1};
                if (Naive.degree(left) >= d && Naive.degree(Naive.rest(p, left, q)) < 0) {
                    left = Naive.quotient(p, left, q);
                    found++;
                }
            }
        }
        return Naive.degree(left) > 0 ? found + 1 : found;
    }

    /** g 1: three POINTS on a line are 0 together. */
    private static void byLines(Naive naive, Random random) {
        CurveShares x = Due.on(naive.text());
        List<int[]> all = new ArrayList<>(naive.points());
        all.add(null);
        int[] orders = new int[all.size()];
        for (int i = 0; i < all.size(); i++) {
            int[] at = all.get(i);
            orders[i] = 1;
            while (at != null) {
                at = sum(naive, at, all.get(i));
                orders[i]++;
            }
        }
        int greatest = 0;
        for (int d = 1; d <= 99; d++) {
            int killed = 0;
            for (int order : orders) {
                killed += d % order == 0 ? 1 : 0;
                greatest = Math.max(greatest, order);
            }
            DUE.same(naive.text() + " torsion " + d, x.torsion(0, d), killed);
        }
        DUE.same(naive.text() + " greatest", x.torsion(0, 0), greatest);
        RandomSum sum = new RandomSum(random, naive, 8);
        Due.tell(x, 1, -1, sum.text());
        int[] due = null;
        for (int[] entry : sum.entries) {
            int[] point = {entry[0], entry[2] < 0 ? Math.floorMod(-entry[1], naive.p) : entry[1]};
            for (int i = 0; i < Math.abs(entry[2]); i++) {
                due = sum(naive, due, point);
            }
        }
        int[] got = due == null ? new int[] {1, 0, 0, 0, 0} : new int[] {Math.floorMod(-due[0], naive.p), 1, 0, due[1], 0};
        for (int what = 0; what < 5; what++) {
            DUE.same(naive.text() + sum.text() + " class " + what, x.times(0, 0, 1, what), got[what]);
        }
    }

    private static int[] sum(Naive naive, int[] one, int[] two) {
        int p = naive.p;
        if (one == null || two == null) {
            return one == null ? two : one;
        }
        int rise = two[1] - one[1];
        int run = two[0] - one[0];
        if (Math.floorMod(run, p) == 0) {
            if ((one[1] + two[1]) % p == 0) {
                return null;
            }
            rise = naive.f[1] + 2 * naive.f[2] * one[0] + 3 * naive.f[3] * one[0] * one[0];
            run = 2 * one[1];
        }
        int slope = 0;
        while (Math.floorMod(slope * run - rise, p) != 0) {
            slope++;
        }
        int lead = 1;
        while (lead * naive.f[3] % p != 1) {
            lead++;
        }
        int x = Math.floorMod((slope * slope - naive.f[2]) * lead - one[0] - two[0], p);
        return new int[] {x, Math.floorMod(-one[1] - slope * (x - one[0]), p)};
    }

    private static void edges() {
        CurveShares x = Due.on("");
        DUE.same("no sum", x.times(0, 0, 1, 0), -1);
        DUE.same("no sum", x.orderOf(0, 0), -1);
        DUE.same("no sum", x.log(0, 0, 0), -1);
        DUE.same("no sum", x.added(0, 0, 0, 0), -1);
        DUE.same("no sum", x.same(0, 0, 0), false);
        Due.tell(x, 1, -1, "");
        Due.tell(x, 1, -1, "at 1 1 1;");
        Due.tell(x, 1, -1, "at 0 1 1; far 5;");
        DUE.same("order of 0", x.orderOf(0, 0), 1);
        DUE.same("log of 0", x.log(0, 0, 0), 0);
        DUE.same("log from 0", x.log(0, 0, 2), -1);
        DUE.same("log to 0", x.log(0, 2, 0), 0);
        for (int n : new int[] {-100, 100, Integer.MIN_VALUE, Integer.MAX_VALUE}) {
            DUE.same("times " + n, x.times(0, 2, n, 0), -1);
        }
        for (int what : new int[] {-1, 5, Integer.MIN_VALUE, Integer.MAX_VALUE}) {
            DUE.same("times what " + what, x.times(0, 2, 1, what), -1);
            DUE.same("added what " + what, x.added(0, 2, 0, what), -1);
        }
        DUE.same("times 99", x.times(0, 2, 99, 0), 1);
        DUE.same("times 0", x.times(0, 2, 0, 1), 0);
        DUE.same("it fits not", x.times(0, 1, 1, 0), -1);
        DUE.same("it fits not", x.orderOf(0, 1), -1);
        DUE.same("one fits not", x.added(0, 1, 0, 0), -1);
        DUE.same("two fits not", x.added(0, 0, 1, 0), -1);
        DUE.same("two fits not", x.log(0, 0, 1), -1);
        DUE.same("one fits not", x.same(0, 1, 1), false);
        DUE.same("no curve", x.times(1, 0, 1, 0), -1);
        DUE.same("no curve", x.orderOf(1, 0), -1);
        DUE.same("no curve", x.log(-1, 0, 0), -1);
        DUE.same("no curve", x.same(1, 0, 0), false);
        DUE.same("no curve", x.added(1, 0, 0, 0), -1);
    }
}
