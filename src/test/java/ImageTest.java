import java.util.Random;

/** Promises 32 and 33, and that answers come from what is told alone, whatever was asked before. */
public final class ImageTest {
    private static final Due DUE = new Due();

    public static void main(String[] args) {
        images();
        Random random = new Random(9);
        for (int round = 0; round < 60; round++) {
            asked(random);
        }
        for (int round = 0; round < 100; round++) {
            turns(random);
        }
        DUE.end();
    }

    private static void images() {
        CurveShares x = Due.on("prime 5; curve 1 1 0 1;");
        Due.tell(x, 1, -1, "far 3;");
        Due.tell(x, 2, -1, "x 1 1;");
        Due.tell(x, 1, -1, "far 10;");
        Due.put(x, "far 4;");
        for (int k : new int[] {-1, 3, Integer.MIN_VALUE, Integer.MAX_VALUE}) {
            DUE.same("no image " + k, x.image(k), false);
            DUE.same("no image " + k, x.again(k), false);
        }
        DUE.same("image 1", x.image(1), true);
        DUE.same("text", x.text(1, 0), 0);
        Due.tell(x, 0, -1, "");
        Due.tell(x, 0, 0, "");
        Due.tell(x, 2, 0, "");
        Due.put(x, "#");
        DUE.same("image 2", x.image(2), true);
        DUE.same("again 0", x.again(0), false);
        DUE.same("again 1", x.again(1), true);
        DUE.same("the fault", x.fault(0), 2);
        DUE.same("its place", x.fault(1), 4);
        DUE.same("the curve", x.curve(0, 0), 5);
        DUE.same("curves", x.count(0), 1);
        DUE.same("the sum", x.sum(0, 1), 3);
        DUE.same("the function", x.function(0, false, 1), 1);
        DUE.same("the tape", x.end(7), -1);
        DUE.same("the tape", x.text(1, -1), 1);
        DUE.same("what was on it", x.sum(1, 1), 4);
        DUE.same("again 1, again", x.again(1), true);
        DUE.same("sums", x.count(1), 1);
        DUE.same("again 2", x.again(2), true);
        DUE.same("curves", x.count(0), 2);
        DUE.same("the curve", x.curve(0, 0), 7);
        DUE.same("the sum", x.sum(0, 1), 4);
        DUE.same("the tape", x.end(2), -1);
        DUE.same("the tape", x.text(2, 0), -1);
        DUE.same("the fault", x.fault(0), 1);
        DUE.same("again 1", x.again(1), true);
        DUE.same("the curve", x.curve(0, 0), 5);
        CurveShares empty = new CurveShares();
        DUE.same("an image of nothing", empty.image(0), true);
        Due.tell(empty, 0, -1, "");
        DUE.same("again", empty.again(0), true);
        DUE.same("nothing", empty.count(0), 0);
    }

    /** One object is asked many things between texts; a fresh one, told the same, must answer alike. */
    private static void asked(Random random) {
        CurveShares x = new CurveShares();
        String[] curves = new String[2];
        String[] sums = new String[3];
        String[] functions = new String[3];
        Naive naive = Naive.random(random);
        for (int round = 0; round < 60; round++) {
            int which = random.nextInt(8);
            if (which < 2) {
                naive = random.nextInt(3) > 0 ? naive : Naive.random(random);
                tell(x, 0, curves, naive.text(), random);
            } else if (which < 5) {
                tell(x, 1, sums, new RandomSum(random, naive, 3).text(), random);
            } else if (which < 6) {
                tell(x, 2, functions, "x " + random.nextInt(5) + " 1; y " + random.nextInt(3) + " 2;", random);
            } else {
                x.image(0);
                Due.tell(x, random.nextInt(2), 0, "far 2;");
                ask(x, random.nextInt(33), new Random(random.nextInt()));
                x.again(0);
            }
            CurveShares fresh = new CurveShares();
            retell(fresh, 0, curves);
            retell(fresh, 1, sums);
            retell(fresh, 2, functions);
            for (int call = 0; call < 20; call++) {
                int what = random.nextInt(33);
                int seed = random.nextInt();
                DUE.same("call " + what + " seed " + seed, ask(x, what, new Random(seed)), ask(fresh, what, new Random(seed)));
            }
        }
    }

    /** Two CURVES on which all SUMS FIT are asked in turn; a fresh object must answer each call alike. */
    private static void turns(Random random) {
        String[] curves = {"", "prime 3; curve 1 2 0 0 0 1;", "prime 13; curve 1 0 0 1;", "prime 5; curve 1 1 0 1;", "curve 1 0 0 0 0 1;",
            "prime 11; curve 1 2 0 0 0 1;"};
        String[] texts = new String[8];
        for (int k = 0; k < 2; k++) {
            texts[k] = curves[random.nextInt(curves.length)];
        }
        for (int k = 2; k < 5; k++) {
            texts[k] = "far " + random.nextInt(7) + "; at 0 1 " + random.nextInt(4) + ";" + (random.nextBoolean() ? "at 0 1 -1;" : "");
        }
        for (int k = 5; k < 8; k++) {
            texts[k] = "x " + random.nextInt(5) + " 1; x 0 " + random.nextInt(3) + "; y " + random.nextInt(3) + " 2;";
        }
        CurveShares x = told(texts);
        for (int call = 0; call < 200; call++) {
            int what = random.nextInt(33);
            int seed = random.nextInt();
            DUE.same("in turn, call " + what + " seed " + seed, ask(x, what, new Random(seed)), ask(told(texts), what, new Random(seed)));
        }
    }

    private static CurveShares told(String[] texts) {
        CurveShares x = new CurveShares();
        for (int k = 0; k < texts.length; k++) {
            Due.tell(x, k < 2 ? 0 : k < 5 ? 1 : 2, -1, texts[k]);
        }
        return x;
    }

    private static void tell(CurveShares x, int sort, String[] told, String text, Random random) {
        int k = random.nextInt(told.length);
        while (k > 0 && told[k - 1] == null) {
            k--;
        }
        DUE.same(text, Due.tell(x, sort, told[k] == null ? -1 : k, text), k);
        told[k] = text;
    }

    private static void retell(CurveShares x, int sort, String[] told) {
        for (String text : told) {
            if (text != null) {
                Due.tell(x, sort, -1, text);
            }
        }
    }

    /** A call that changes nothing, with small numbers. */
    static long ask(CurveShares x, int which, Random r) {
        int c = r.nextInt(2);
        int s = r.nextInt(3);
        int t = r.nextInt(3);
        int k = r.nextInt(12);
        boolean b = r.nextBoolean();
        switch (which) {
            case 0: return x.curve(c, r.nextInt(17));
            case 1: return x.sum(s, r.nextInt(40));
            case 2: return x.function(s, b, r.nextInt(6));
            case 3: return x.point(c, k, r.nextInt(3));
            case 4: return x.counted(c, r.nextInt(14), b);
            case 5: return x.share(c, r.nextInt(7) - 1);
            case 6: return x.fits(c, s) ? 1 : 0;
            case 7: return x.order(c, s, k);
            case 8: return x.norm(c, s, r.nextInt(20));
            case 9: return x.room(c, s, r.nextInt(4));
            case 10: return x.base(c, s, r.nextInt(5), b, r.nextInt(5));
            case 11: return x.under(c, s, r.nextInt(4));
            case 12: return x.gap(c, k, r.nextInt(3));
            case 13: return x.times(c, s, r.nextInt(20), r.nextInt(5));
            case 14: return x.added(c, s, t, r.nextInt(5));
            case 15: return x.orderOf(c, s);
            case 16: return x.same(c, s, t) ? 1 : 0;
            case 17: return x.log(c, s, t);
            case 18: return x.torsion(c, r.nextInt(20));
            case 19: return x.change(c, r.nextInt(8) - 1, r.nextInt(3));
            case 20: return x.like(c, r.nextInt(2)) ? 1 : 0;
            case 21: return x.twist(c, r.nextInt(3));
            case 22: return x.code(c, s, r.nextInt(3));
            case 23: return x.code(c, s, 100 + r.nextInt(20));
            case 24: return x.sent(c, s, r.nextInt(3000), k);
            case 25: return x.mended(c, s, r.nextInt(99), r.nextInt(10), r.nextInt(), r.nextInt(3));
            default: return x.count(r.nextInt(4));
        }
    }
}
