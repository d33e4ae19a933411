/** Counts the answers that are not as due, and tells texts to an object. */
final class Due {
    private int calls;
    private int wrong;

    void same(String call, long got, long want) {
        calls++;
        if (got != want) {
            wrong++;
            if (wrong <= 40) {
                System.out.println(call + " answered " + got + ", due is " + want);
            }
        }
    }

    void same(String call, boolean got, boolean want) {
        same(call, got ? 1 : 0, want ? 1 : 0);
    }

    void end() {
        System.out.println(wrong == 0 ? calls + " answers are as due" : wrong + " of " + calls + " answers are not as due");
        if (wrong != 0) {
            System.exit(1);
        }
    }

    /** Puts a text on the tape, which is emptied first. */
    static void put(CurveShares x, String text) {
        x.end(0);
        for (int at = 0; at < text.length(); at += 20) {
            int[] five = new int[5];
            for (int i = 0; i < 20; i++) {
                int sign = at + i < text.length() ? text.charAt(at + i) & 255 : 0;
                five[i / 4] = five[i / 4] << 8 | sign;
            }
            x.feed(five[0], five[1], five[2], five[3], five[4]);
        }
        x.end(text.length());
    }

    static int tell(CurveShares x, int sort, int at, String text) {
        put(x, text);
        return x.text(sort, at);
    }

    static CurveShares on(String curve) {
        CurveShares x = new CurveShares();
        if (tell(x, 0, -1, curve) != 0) {
            throw new IllegalStateException("no curve: " + curve);
        }
        return x;
    }
}
