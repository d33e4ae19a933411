import java.util.List;
import java.util.Random;

/** Promises 15 to 18: ROOM, BASE, E and GAPS. */
public final class RoomTest {
    private static final Due DUE = new Due();

    public static void main(String[] args) {
        Random random = new Random(5);
        for (int round = 0; round < 3000; round++) {
            Naive naive = Naive.random(random);
            CurveShares x = Due.on(naive.text());
            RandomSum sum = new RandomSum(random, naive, round % 3 == 0 ? 8 : 3);
            Due.tell(x, 1, -1, sum.text());
            check(x, naive, sum);
        }
        for (int round = 0; round < 40; round++) {
            gaps(Naive.random(random));
        }
        greatest();
        wrong();
        DUE.end();
    }

    private static void check(CurveShares x, Naive naive, RandomSum sum) {
        String name = naive.text() + sum.text();
        int p = naive.p;
        int[] under = sum.under();
        int depth = Naive.degree(under);
        DUE.same(name + " degree", x.room(0, 0, 0), sum.degree());
        DUE.same(name + " E's degree", x.room(0, 0, 3), depth);
        for (int i = -1; i <= depth + 1; i++) {
            DUE.same(name + " E at " + i, x.under(0, 0, i), i < 0 || i > depth ? -1 : under[i]);
        }
        int room = x.room(0, 0, 1);
        int poles = 2 * depth + sum.far;
        int most = Math.max(0, poles) + 2;
        int before = -1;
        for (int k = 0; k < room; k++) {
            int[] a = new int[most];
            int[] b = new int[most];
            for (int i = -1; i < most; i++) {
                int ofA = x.base(0, 0, k, false, i);
                int ofB = x.base(0, 0, k, true, i);
                boolean fitsA = i >= 0 && 2 * i <= poles;
                boolean fitsB = i >= 0 && 2 * i + 2 * naive.genus + 1 <= poles;
                DUE.same(name + " A is told", fitsA ? ofA >= 0 && ofA < p : ofA == -1, true);
                DUE.same(name + " B is told", fitsB ? ofB >= 0 && ofB < p : ofB == -1, true);
                if (i >= 0) {
                    a[i] = fitsA ? ofA : 0;
                    b[i] = fitsB ? ofB : 0;
                }
            }
            DUE.same(name + " row is in the room", sum.allows(a, b, under), true);
            int lead = -naive.orderFar(a, b);
            DUE.same(name + " rows go on", lead > before, true);
            before = lead;
            for (int j = 0; j < room; j++) {
                boolean y = lead % 2 == 1;
                int power = y ? (lead - 2 * naive.genus - 1) / 2 : lead / 2;
                DUE.same(name + " lead of " + k + " in " + j, x.base(0, 0, j, y, power), j == k ? 1 : 0);
            }
        }
        DUE.same(name + " no row behind", x.base(0, 0, room, false, 0), -1);
        DUE.same(name + " no row -1", x.base(0, 0, -1, false, 0), -1);
        DUE.same(name + " barred", x.room(0, 0, 2), room - sum.degree() - 1 + naive.genus);
        int rest = 2 * naive.genus - 2 - sum.far;
        if (rest <= 9) {
            // The rows above are all in it; with as many as BARRED of the other one there can be no more.
            Due.tell(x, 1, -1, sum.negative(rest));
            DUE.same(name + " room of the barred", x.room(0, 1, 1), x.room(0, 0, 2));
            DUE.same(name + " barred of the barred", x.room(0, 1, 2), room);
        }
    }

    private static void gaps(Naive naive) {
        CurveShares x = Due.on(naive.text());
        Due.tell(x, 1, -1, "");
        List<int[]> points = naive.points();
        for (int k = 0; k <= points.size(); k++) {
            int found = 0;
            int before = 1;
            for (int n = 1; n <= 5; n++) {
                String text = "far " + n + ";";
                if (k < points.size()) {
                    text = "at " + points.get(k)[0] + " " + points.get(k)[1] + " " + n + ";";
                }
                Due.tell(x, 1, 0, text);
                int room = x.room(0, 0, 1);
                if (room == before) {
                    DUE.same(naive.text() + " gap " + found + " of " + k, x.gap(0, k, found), n);
                    found++;
                }
                before = room;
            }
            DUE.same("so many gaps", found, naive.genus);
            DUE.same("no gap more", x.gap(0, k, found), -1);
            DUE.same("no gap -1", x.gap(0, k, -1), -1);
        }
        DUE.same("no point", x.gap(0, points.size() + 1, 0), -1);
        DUE.same("no point", x.gap(0, -1, 0), -1);
        DUE.same("no curve", x.gap(1, 0, 0), -1);
    }

    private static void greatest() {
        CurveShares x = Due.on("prime 13; curve 1 0 0 1;");
        Due.tell(x, 1, -1, "at 0 1 5;".repeat(8) + "far 9;");
        DUE.same("the greatest room", x.room(0, 0, 1), 49);
        DUE.same("the greatest E", x.room(0, 0, 3), 40);
        DUE.same("its last row", x.base(0, 0, 48, true, 43), 1);
        DUE.same("its last place in A", x.base(0, 0, 48, false, 44) >= 0, true);
        DUE.same("none behind it", x.base(0, 0, 48, false, 45), -1);
        DUE.same("none behind it", x.base(0, 0, 48, true, 44), -1);
        Due.tell(x, 1, 0, "at 0 1 -5;".repeat(8) + "far -9;");
        DUE.same("the least room", x.room(0, 0, 1), 0);
        DUE.same("what it bars", x.room(0, 0, 2), 49);
        Due.tell(x, 1, 0, "at 0 1 5; at 0 1 5; at 0 1 5; at 0 1 5; at 0 12 -5; at 0 12 -5; at 0 12 -5; at 0 12 -5;");
        DUE.same("the principal one", x.room(0, 0, 0), 0);
        DUE.same("its E", x.room(0, 0, 3), 20);
    }

    private static void wrong() {
        CurveShares x = Due.on("");
        DUE.same("no sum", x.room(0, 0, 0), -1000);
        DUE.same("no sum", x.base(0, 0, 0, false, 0), -1);
        DUE.same("no sum", x.under(0, 0, 0), -1);
        Due.tell(x, 1, -1, "far -1;");
        DUE.same("room is 0", x.room(0, 0, 1), 0);
        DUE.same("degree is -1", x.room(0, 0, 0), -1);
        DUE.same("no row", x.base(0, 0, 0, false, 0), -1);
        DUE.same("E is 1", x.under(0, 0, 0), 1);
        DUE.same("what 4", x.room(0, 0, 4), -1000);
        DUE.same("what -1", x.room(0, 0, -1), -1000);
        DUE.same("no curve", x.room(1, 0, 0), -1000);
        DUE.same("i is great", x.base(0, 0, 0, false, Integer.MAX_VALUE), -1);
        Due.tell(x, 1, 0, "");
        DUE.same("room of 0", x.room(0, 0, 1), 1);
        DUE.same("i is great", x.base(0, 0, 0, true, Integer.MAX_VALUE), -1);
        DUE.same("i is great", x.base(0, 0, 0, false, 1 << 30), -1);
        Due.tell(x, 1, -1, "at 1 1 1;");
        for (int what = 0; what < 4; what++) {
            DUE.same("it fits not", x.room(0, 1, what), -1000);
        }
        DUE.same("it fits not", x.base(0, 1, 0, false, 0), -1);
        DUE.same("it fits not", x.under(0, 1, 0), -1);
    }
}
