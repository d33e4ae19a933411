import java.util.ArrayList;
import java.util.List;
import java.util.Random;

/** A SUM that fits on a curve, reckoned again in the plainest way. */
final class RandomSum {
    final Naive naive;
    final List<int[]> entries = new ArrayList<>();
    int far;

    RandomSum(Random random, Naive naive, int most) {
        this.naive = naive;
        List<int[]> points = naive.points();
        int wanted = points.isEmpty() ? 0 : random.nextInt(most + 1);
        boolean few = random.nextBoolean();
        for (int i = 0; i < wanted; i++) {
            int[] point = points.get(random.nextInt(few ? Math.min(3, points.size()) : points.size()));
            entries.add(new int[] {point[0], point[1], random.nextInt(11) - 5});
        }
        far = random.nextInt(19) - 9;
    }

    String text() {
        return text(1, far);
    }

    String negative(int otherFar) {
        return text(-1, otherFar);
    }

    private String text(int sign, int ofFar) {
        StringBuilder text = new StringBuilder("far " + ofFar + ";");
        for (int[] entry : entries) {
            text.append("at ").append(entry[0]).append(' ').append(entry[1]).append(' ').append(sign * entry[2]).append(';');
        }
        return text.toString();
    }

    int degree() {
        int degree = far;
        for (int[] entry : entries) {
            degree += entry[2];
        }
        return degree;
    }

    int often(int x, int y) {
        int often = 0;
        for (int[] entry : entries) {
            often += entry[0] == x && entry[1] == y ? entry[2] : 0;
        }
        return often;
    }

    boolean names(int x) {
        boolean named = false;
        for (int[] entry : entries) {
            named |= entry[0] == x;
        }
        return named;
    }

    int[] under() {
        int[] under = {1};
        for (int x = 0; x < naive.p; x++) {
            int depth = 0;
            for (int y = 0; y < naive.p; y++) {
                int often = Math.max(0, often(x, y));
                depth = Math.max(depth, y == 0 ? often - often / 2 : often);
            }
            for (int n = 0; n < depth; n++) {
                under = Naive.product(naive.p, under, new int[] {Math.floorMod(-x, naive.p), 1});
            }
        }
        return under;
    }

    /** Whether (A + B y) by E has no more poles than this lets. */
    boolean allows(int[] a, int[] b, int[] under) {
        for (int[] point : naive.points()) {
            int order = naive.order(a, b, point[0], point[1]) - naive.order(under, new int[1], point[0], point[1]);
            if (order < -often(point[0], point[1])) {
                return false;
            }
        }
        return naive.orderFar(a, b) - naive.orderFar(under, new int[1]) >= -far;
    }
}
