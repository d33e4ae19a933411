import java.util.List;
import java.util.Random;

/** Promises 13 and 14: ORDERS and NORMS of FUNCTIONS. */
public final class FunctionTest {
    private static final Due DUE = new Due();

    public static void main(String[] args) {
        Random random = new Random(4);
        for (int round = 0; round < 4000; round++) {
            Naive naive = Naive.random(random);
            CurveShares x = Due.on(naive.text());
            int[][] parts = randomParts(random, naive);
            Due.tell(x, 2, -1, text(parts));
            check(x, naive, parts);
        }
        wrong();
        DUE.end();
    }

    /** Often a product of lines through POINTS, so that greater ORDERS come. */
    private static int[][] randomParts(Random random, Naive naive) {
        int[] a = new int[5];
        int[] b = new int[3];
        for (int i = 0; i < 5; i++) {
            a[i] = random.nextInt(3) == 0 ? 0 : random.nextInt(13);
        }
        for (int i = 0; i < 3; i++) {
            b[i] = random.nextInt(3) == 0 ? 0 : random.nextInt(13);
        }
        int kind = random.nextInt(4);
        if (kind == 0) {
            b = new int[3];
        }
        if (kind == 1) {
            int[] line = {random.nextInt(naive.p), 1};
            int[] square = Naive.product(naive.p, line, line);
            System.arraycopy(Naive.product(naive.p, square, square), 0, a, 0, 5);
            System.arraycopy(square, 0, b, 0, 3);
            a[0] = random.nextBoolean() ? a[0] : random.nextInt(naive.p);
            b[0] = random.nextBoolean() ? b[0] : 0;
        }
        if (kind == 2) {
            a[4] = 0;
            b[2] = 0;
            b[1] = 0;
            List<int[]> points = naive.points();
            if (!points.isEmpty()) {
                int[] point = points.get(random.nextInt(points.size()));
                a[0] = 0;
                a[0] = Math.floorMod(-b[0] * point[1] - naive.value(a, point[0]), naive.p);
            }
        }
        return new int[][] {a, b};
    }

    private static String text(int[][] parts) {
        StringBuilder text = new StringBuilder();
        for (int i = 0; i < 5; i++) {
            text.append("x ").append(i).append(' ').append(parts[0][i]).append(';');
        }
        for (int i = 0; i < 3; i++) {
            text.append("y ").append(i).append(' ').append(parts[1][i]).append(';');
        }
        return text.toString();
    }

    private static void check(CurveShares x, Naive naive, int[][] parts) {
        int[] a = Naive.minus(naive.p, parts[0], new int[1]);
        int[] b = Naive.minus(naive.p, parts[1], new int[1]);
        List<int[]> points = naive.points();
        int far = points.size();
        if (Naive.degree(a) < 0 && Naive.degree(b) < 0) {
            DUE.same("order of 0", x.order(0, 0, 0), -100);
            DUE.same("norm of 0", x.norm(0, 0, 0), -1);
            DUE.same("norm of 0", x.norm(0, 0, 10), -1);
            return;
        }
        int rational = 0;
        for (int k = 0; k < far; k++) {
            int order = naive.order(a, b, points.get(k)[0], points.get(k)[1]);
            DUE.same(naive.text() + text(parts) + " order at " + k, x.order(0, 0, k), order);
            rational += order;
        }
        DUE.same("order at FAR", x.order(0, 0, far), naive.orderFar(a, b));
        DUE.same("order behind FAR", x.order(0, 0, far + 1), -100);
        DUE.same("order at -1", x.order(0, 0, -1), -100);
        int[] norm = naive.norm(a, b);
        DUE.same("norm's degree", x.norm(0, 0, 0), Naive.degree(norm));
        DUE.same("rational", x.norm(0, 0, 1), rational);
        DUE.same("rest", x.norm(0, 0, 2), -rational - naive.orderFar(a, b));
        for (int i = 0; i < 10; i++) {
            DUE.same("norm's coefficient " + i, x.norm(0, 0, 10 + i), i < norm.length ? norm[i] : 0);
        }
        for (int what : new int[] {-1, 3, 9, 20, 100, Integer.MIN_VALUE}) {
            DUE.same("norm what " + what, x.norm(0, 0, what), -1);
        }
    }

    private static void wrong() {
        CurveShares x = Due.on("");
        DUE.same("no function", x.order(0, 0, 0), -100);
        DUE.same("no function", x.norm(0, 0, 0), -1);
        Due.tell(x, 2, -1, "x 0 7; y 1 7;");
        DUE.same("0 by remainders", x.order(0, 0, 0), -100);
        DUE.same("0 by remainders", x.norm(0, 0, 1), -1);
        Due.tell(x, 2, 0, "x 0 8;");
        DUE.same("1 by remainders", x.order(0, 0, 0), 0);
        DUE.same("1 at FAR", x.order(0, 0, 11), 0);
        DUE.same("1 has norm 1", x.norm(0, 0, 10), 1);
        DUE.same("no curve", x.order(1, 0, 0), -100);
        DUE.same("no curve", x.norm(-1, 0, 0), -1);
        Due.tell(x, 2, 0, "y 0 1;");
        DUE.same("y at a FIXED one", x.order(0, 0, 6), 1);
        DUE.same("y at FAR", x.order(0, 0, 11), -3);
    }
}
