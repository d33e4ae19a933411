import java.util.ArrayList;
import java.util.List;
import java.util.Random;
import java.util.TreeSet;

/** Promises 28 to 30: CODES, by going through all of ROOM. */
public final class CodeTest {
    private static final Due DUE = new Due();

    public static void main(String[] args) {
        Random random = new Random(8);
        for (int round = 0; round < 600; round++) {
            Naive naive = Naive.random(random);
            CurveShares x = Due.on(naive.text());
            RandomSum sum = new RandomSum(random, naive, 3);
            Due.tell(x, 1, -1, sum.text());
            check(x, naive, sum, random);
        }
        edges();
        DUE.end();
    }

    private static void check(CurveShares x, Naive naive, RandomSum sum, Random random) {
        String name = naive.text() + sum.text();
        List<int[]> places = new ArrayList<>();
        for (int[] point : naive.points()) {
            if (!sum.names(point[0])) {
                places.add(point);
            }
        }
        int length = places.size();
        DUE.same(name + " length", x.code(0, 0, 0), length);
        List<int[]> rows = new ArrayList<>();
        for (int k = 0; k < x.room(0, 0, 1); k++) {
            rows.add(values(x, naive, sum, places, k));
        }
        for (int round = 0; round < 3; round++) {
            int m = round == 0 ? random.nextInt(50) : random.nextInt() >>> 1;
            int[] due = sent(naive.p, rows, length, m);
            for (int i = 0; i < length; i++) {
                DUE.same(name + " sent " + m, x.sent(0, 0, m, i), due[i]);
            }
            DUE.same(name + " sent behind", x.sent(0, 0, m, length), -1);
            DUE.same(name + " sent -1", x.sent(0, 0, m, -1), -1);
        }
        TreeSet<String> code = new TreeSet<>();
        code.add(told(new int[length]));
        int rank = 0;
        int size = 1;
        for (int[] row : rows) {
            if (!code.contains(told(row))) {
                rank++;
                size *= naive.p;
                if (size > 20000) {
                    break;
                }
                code.addAll(spread(naive.p, code, row));
            }
        }
        if (size > 20000) {
            DUE.same(name + " dim is as great", x.code(0, 0, 1) >= rank, true);
        } else {
            DUE.same(name + " dim", x.code(0, 0, 1), rank);
        }
        if (size > 2500) {
            DUE.same(name + " least", x.code(0, 0, 2), -1);
            DUE.same(name + " weigh", x.code(0, 0, 100), -1);
            DUE.same(name + " mended", x.mended(0, 0, 0, 0, 0, 0), -1);
            return;
        }
        weights(x, name, code, length);
        for (int round = 0; round < 4; round++) {
            int m = random.nextInt(1000);
            mended(x, naive, name, code, sent(naive.p, rows, length, m), new int[] {m, random.nextInt(10), random.nextInt()});
        }
    }

    private static int[] values(CurveShares x, Naive naive, RandomSum sum, List<int[]> places, int k) {
        int[] values = new int[places.size()];
        for (int i = 0; i < values.length; i++) {
            int at = places.get(i)[0];
            int above = 0;
            for (int power = 59; power >= 0; power--) {
                int a = Math.max(0, x.base(0, 0, k, false, power));
                int b = Math.max(0, x.base(0, 0, k, true, power));
                above = (above * at + a + b * places.get(i)[1]) % naive.p;
            }
            int below = naive.value(sum.under(), at);
            while (values[i] * below % naive.p != above) {
                values[i]++;
            }
        }
        return values;
    }

    private static int[] sent(int p, List<int[]> rows, int length, int m) {
        int[] sent = new int[length];
        int left = m;
        for (int[] row : rows) {
            for (int i = 0; i < length; i++) {
                sent[i] = (sent[i] + left % p * row[i]) % p;
            }
            left /= p;
        }
        return sent;
    }

    private static TreeSet<String> spread(int p, TreeSet<String> code, int[] row) {
        TreeSet<String> more = new TreeSet<>();
        for (String word : code) {
            for (int factor = 1; factor < p; factor++) {
                int[] sum = new int[row.length];
                for (int i = 0; i < row.length; i++) {
                    sum[i] = (word.charAt(i) - 'a' + factor * row[i]) % p;
                }
                more.add(told(sum));
            }
        }
        return more;
    }

    private static String told(int[] row) {
        StringBuilder told = new StringBuilder();
        for (int value : row) {
            told.append((char) ('a' + value));
        }
        return told.toString();
    }

    private static int unlike(String one, String two) {
        int unlike = 0;
        for (int i = 0; i < one.length(); i++) {
            unlike += one.charAt(i) == two.charAt(i) ? 0 : 1;
        }
        return unlike;
    }

    private static void weights(CurveShares x, String name, TreeSet<String> code, int length) {
        int[] weigh = new int[length + 1];
        for (String word : code) {
            weigh[unlike(word, "a".repeat(length))]++;
        }
        int least = 0;
        for (int w = length; w >= 0; w--) {
            DUE.same(name + " weigh " + w, x.code(0, 0, 100 + w), weigh[w]);
            least = w > 0 && weigh[w] > 0 ? w : least;
        }
        DUE.same(name + " weigh behind", x.code(0, 0, 101 + length), -1);
        DUE.same(name + " least", x.code(0, 0, 2), least);
    }

    private static void mended(CurveShares x, Naive naive, String name, TreeSet<String> code, int[] sent, int[] how) {
        int length = sent.length;
        String call = name + " mended " + how[0] + " " + how[1] + " " + how[2];
        if (length == 0) {
            DUE.same(call, x.mended(0, 0, how[0], how[1], how[2], 0), -1);
            return;
        }
        int[] drawn = sent.clone();
        int seed = how[2];
        for (int i = 0; i < how[1]; i++) {
            seed = seed * 1103515245 + 12345;
            int place = (seed >>> 16) % length;
            seed = seed * 1103515245 + 12345;
            drawn[place] = (drawn[place] + (seed >>> 16) % (naive.p - 1) + 1) % naive.p;
        }
        int fewest = length + 1;
        int nearest = 0;
        for (String word : code) {
            int unlike = unlike(word, told(drawn));
            nearest = unlike < fewest ? 1 : unlike == fewest ? nearest + 1 : nearest;
            fewest = Math.min(fewest, unlike);
        }
        DUE.same(call, x.mended(0, 0, how[0], how[1], how[2], 0), fewest);
        DUE.same(call, x.mended(0, 0, how[0], how[1], how[2], 1), nearest);
        DUE.same(call, x.mended(0, 0, how[0], how[1], how[2], 2), unlike(told(sent), told(drawn)) == fewest ? 1 : 0);
    }

    private static void edges() {
        CurveShares x = Due.on("");
        DUE.same("no sum", x.code(0, 0, 0), -1);
        DUE.same("no sum", x.sent(0, 0, 0, 0), -1);
        DUE.same("no sum", x.mended(0, 0, 0, 0, 0, 0), -1);
        Due.tell(x, 1, -1, "far -1;");
        DUE.same("dim 0", x.code(0, 0, 1), 0);
        DUE.same("least of dim 0", x.code(0, 0, 2), 0);
        DUE.same("weigh of dim 0", x.code(0, 0, 100), 1);
        DUE.same("weigh of dim 0", x.code(0, 0, 111), 0);
        DUE.same("sent of dim 0", x.sent(0, 0, 77, 10), 0);
        for (int what : new int[] {-1, 3, 99, 112, Integer.MIN_VALUE, Integer.MAX_VALUE}) {
            DUE.same("code what " + what, x.code(0, 0, what), -1);
        }
        for (int what : new int[] {-1, 3}) {
            DUE.same("mended what " + what, x.mended(0, 0, 0, 0, 0, what), -1);
        }
        DUE.same("m below 0", x.mended(0, 0, -1, 0, 0, 0), -1);
        DUE.same("e below 0", x.mended(0, 0, 0, -1, 0, 0), -1);
        DUE.same("e 10", x.mended(0, 0, 0, 10, 0, 0), -1);
        DUE.same("e 9", x.mended(0, 0, 0, 9, 0, 0) >= 0, true);
        DUE.same("m below 0", x.sent(0, 0, -1, 0), -1);
        DUE.same("no curve", x.code(1, 0, 0), -1);
        DUE.same("no curve", x.sent(1, 0, 0, 0), -1);
        DUE.same("no curve", x.mended(1, 0, 0, 0, 0, 0), -1);
        Due.tell(x, 1, 0, "at 1 1 0;");
        DUE.same("it fits not", x.code(0, 0, 0), -1);
        Due.tell(x, 1, 0, "at 0 1 0;");
        DUE.same("an entry of 0 times", x.code(0, 0, 0), 9);
        Due.tell(x, 0, 0, "prime 3; curve 1 2 0 1;");
        Due.tell(x, 1, 0, "at 0 1 1; at 1 1 1; at 2 1 1;");
        DUE.same("no places", x.code(0, 0, 0), 0);
        DUE.same("no places", x.code(0, 0, 1), 0);
        DUE.same("no places", x.code(0, 0, 2), 0);
        DUE.same("no places", x.code(0, 0, 100), 1);
        DUE.same("no places", x.sent(0, 0, 0, 0), -1);
        DUE.same("no places", x.mended(0, 0, 0, 0, 0, 0), -1);
    }
}
