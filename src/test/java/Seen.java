import java.util.function.ToLongFunction;

/** All that can be asked of an object about what it is told, so that a refused call can be held against it. */
final class Seen {
    static final int[] BEYOND = {Integer.MIN_VALUE, -1000, -2, Integer.MAX_VALUE};

    private Seen() {
    }

    /** Two CURVES, three SUMS, three FUNCTIONS, a FAULT, a text on the tape, and image 0 of one CURVE alone. */
    static CurveShares sample() {
        CurveShares x = Due.on("");
        x.image(0);
        Due.tell(x, 0, -1, "prime 3; curve 1 2 0 0 0 1;");
        Due.tell(x, 1, -1, "at 3 0 2; far 1;");
        Due.tell(x, 1, -1, "at 0 1 1;");
        Due.tell(x, 1, -1, "at 2 2 1; far -3;");
        Due.tell(x, 2, -1, "x 1 6; y 0 1; x 0 1;");
        Due.tell(x, 2, -1, "");
        Due.tell(x, 2, -1, "x 0 7;");
        Due.tell(x, 1, 0, "far 10;");
        Due.put(x, "far 7;");
        return x;
    }

    static String of(CurveShares x) {
        StringBuilder seen = new StringBuilder();
        seen.append(tape(x)).append(' ').append(x.fault(0)).append(' ').append(x.fault(1)).append('\n');
        for (int sort = 0; sort < 3; sort++) {
            seen.append(x.count(sort)).append(' ');
        }
        for (int k = 0; k < 2; k++) {
            seen.append('\n').append(x.curve(k, 0));
            for (int i = 0; i < 6; i++) {
                seen.append(' ').append(x.curve(k, 10 + i));
            }
        }
        for (int k = 0; k < 3; k++) {
            seen.append('\n').append(x.sum(k, 0)).append(' ').append(x.sum(k, 1));
            for (int what = 10; what < 40; what++) {
                seen.append(' ').append(what % 10 < 3 ? x.sum(k, what) : 0);
            }
        }
        for (int k = 0; k < 3; k++) {
            seen.append('\n');
            for (int i = 0; i < 5; i++) {
                seen.append(' ').append(x.function(k, false, i)).append(' ').append(x.function(k, true, i));
            }
        }
        return seen.toString();
    }

    /** How long the tape is, by calls that leave it as it is. */
    static int tape(CurveShares x) {
        int more = x.feed(0, 0, 0, 0, 0);
        if (more >= 0) {
            return x.end(more - 20);
        }
        int length = 600;
        while (x.end(length) < 0) {
            length--;
        }
        return length;
    }

    /** The call answers so, and all that is told, the tape and the images are as they were. */
    static void refused(Due due, String call, ToLongFunction<CurveShares> ask, long want) {
        CurveShares x = sample();
        String before = of(x);
        due.same(call, ask.applyAsLong(x), want);
        due.same(call + " changes nothing that is told", of(x).equals(before), true);
        due.same(call + " leaves the tape", x.text(1, 0), 0);
        due.same(call + " leaves what is on the tape", x.sum(0, 1), 7);
        due.same(call + " makes no image", x.again(1) || x.again(2), false);
        due.same(call + " leaves image 0", x.again(0), true);
        due.same(call + " leaves what image 0 has", x.count(0) * 100 + x.count(1) * 10 + x.count(2), 100);
        due.same(call + " leaves the CURVE of image 0", x.curve(0, 0), 7);
    }
}
