import java.util.Random;

/** No call throws or runs on without an end, whatever its arguments are: all promises, with wrong inputs. */
public final class RobustTest {
    private static final int[] ODD = {Integer.MIN_VALUE, Integer.MIN_VALUE + 1, -1000, -101, -100, -99, -11, -3, -2, -1, 0, 0, 1, 1, 2, 2, 3, 4, 5, 6,
        7, 8, 9, 10, 11, 12, 13, 14, 19, 20, 26, 27, 28, 39, 40, 41, 44, 45, 90, 99, 100, 101, 126, 127, 600, 1 << 30, Integer.MAX_VALUE - 1, Integer.MAX_VALUE};

    public static void main(String[] args) {
        Random random = new Random(10);
        long calls = 0;
        for (int round = 0; round < 400; round++) {
            CurveShares x = new CurveShares();
            for (int call = 0; call < 512; call++) {
                if (random.nextInt(12) == 0) {
                    tell(x, random);
                } else {
                    any(x, random);
                }
                calls++;
            }
        }
        System.out.println(calls + " calls came back");
    }

    private static void tell(CurveShares x, Random random) {
        Naive naive = Naive.random(random);
        int sort = random.nextInt(3);
        String text = sort == 0 ? naive.text() : sort == 1 ? new RandomSum(random, naive, 8).text() : "x 2 5; y 1 3; x 0 4;";
        if (sort == 1 && random.nextBoolean() && x.curve(0, 0) > 0) {
            int k = random.nextInt(Math.max(1, x.curve(0, 3) - 1));
            if (x.point(0, k, 0) >= 0) {
                text = ("at " + x.point(0, k, 0) + " " + x.point(0, k, 1) + " " + (random.nextInt(11) - 5) + ";").repeat(random.nextInt(9));
            }
        }
        Due.tell(x, sort, random.nextInt(4) - 1, text);
    }

    private static int odd(Random random) {
        return random.nextInt(50) == 0 ? random.nextInt() : ODD[random.nextInt(ODD.length)];
    }

    private static int few(Random random) {
        return random.nextInt(8) == 0 ? odd(random) : random.nextInt(3);
    }

    private static void any(CurveShares x, Random r) {
        int a = few(r);
        int b = few(r);
        int c = odd(r);
        int d = odd(r);
        boolean y = r.nextBoolean();
        switch (r.nextInt(33)) {
            case 0: x.feed(c, d, r.nextInt(), r.nextInt(), odd(r)); break;
            case 1: x.end(c); break;
            case 2: x.text(a, few(r)); break;
            case 3: x.fault(c); break;
            case 4: x.curve(a, c); break;
            case 5: x.sum(a, c); break;
            case 6: x.function(a, y, c); break;
            case 7: x.point(a, c, few(r)); break;
            case 8: x.counted(a, c, y); break;
            case 9: x.share(a, c); break;
            case 10: x.fits(a, b); break;
            case 11: x.order(a, b, c); break;
            case 12: x.norm(a, b, c); break;
            case 13: x.room(a, b, few(r)); break;
            case 14: x.base(a, b, c, y, d); break;
            case 15: x.under(a, b, c); break;
            case 16: x.gap(a, c, few(r)); break;
            case 17: x.times(a, b, c, few(r)); break;
            case 18: x.added(a, b, few(r), few(r)); break;
            case 19: x.orderOf(a, b); break;
            case 20: x.same(a, b, few(r)); break;
            case 21: x.log(a, b, few(r)); break;
            case 22: x.torsion(a, c); break;
            case 23: x.change(a, c, few(r)); break;
            case 24: x.like(a, b); break;
            case 25: x.twist(a, few(r)); break;
            case 26: x.code(a, b, few(r)); break;
            case 27: x.code(a, b, c); break;
            case 28: x.sent(a, b, c, d); break;
            case 29: x.mended(a, b, c, few(r), d, few(r)); break;
            case 30: x.count(c); break;
            case 31: x.image(few(r)); break;
            default: x.again(few(r)); break;
        }
    }
}
