/** The boundary cases of "Terms" 1 and of promises 1 to 5 and 31 to 33, a test for each sentence. */
public final class TapeEdgeTest {
    private static final Due DUE = new Due();
    private static final int[] MOST = {2, 3, 3};

    public static void main(String[] args) {
        newObject();
        feedToTheEdge();
        feedBeyondTheEdge();
        feedHighestFirst();
        endInside();
        endOutside();
        textFurther();
        textInThePlaceOfOne();
        textRefused();
        textWithAFault();
        faultOfTheLatest();
        countOfASort();
        imageAndAgain();
        imagesApart();
        primes();
        coefficients();
        lastCoefficients();
        squares();
        curveLines();
        entries();
        ninthEntry();
        often();
        functionNumbers();
        tokens();
        signs();
        signsInThePlaceOfTheLast();
        struck();
        firstByPlace();
        endsPlace();
        lastCall();
        DUE.end();
    }

    private static void fault(int sort, String text, int fault, int place) {
        CurveShares x = new CurveShares();
        DUE.same("text(" + sort + ") " + text, Due.tell(x, sort, -1, text), fault == 0 ? 0 : -1);
        DUE.same("FAULT of " + text, x.fault(0), fault);
        DUE.same("place of " + text, x.fault(1), place);
        DUE.same("count behind " + text, x.count(sort), fault == 0 ? 1 : 0);
    }

    /** "No CURVES, SUMS, FUNCTIONS; no images." */
    private static void newObject() {
        CurveShares x = new CurveShares();
        DUE.same("new: CURVES", x.count(0), 0);
        DUE.same("new: SUMS", x.count(1), 0);
        DUE.same("new: FUNCTIONS", x.count(2), 0);
        for (int k = 0; k < 3; k++) {
            DUE.same("new: image " + k, x.again(k), false);
        }
        DUE.same("new: the tape is empty", x.end(1), -1);
        DUE.same("new: an empty text", x.text(1, -1), 0);
        DUE.same("new: the FAULT", new CurveShares().fault(0), 0);
        DUE.same("new: its place", new CurveShares().fault(1), -1);
    }

    /** "Twenty bytes come behind it: how many it has", to 600. */
    private static void feedToTheEdge() {
        CurveShares x = new CurveShares();
        for (int n = 20; n <= 580; n += 20) {
            DUE.same("feed to " + n, x.feed(0x20202020, 0x20202020, 0x20202020, 0x20202020, 0x20202020), n);
        }
        x.end(579);
        DUE.same("feed to 599", x.feed(0x20202020, 0x20202020, 0x20202020, 0x20202020, 0x20202020), 599);
        x.end(580);
        DUE.same("feed to 600", x.feed(0x20202020, 0x20202020, 0x20202020, 0x20202020, 0x20202020), 600);
        DUE.same("600 blanks are a text", x.text(1, -1), 0);
        DUE.same("the last byte counts", Due.tell(x, 1, 0, " ".repeat(599) + "#"), -1);
        DUE.same("its place", x.fault(1), 599);
        DUE.same("a text of 600 bytes", Due.tell(x, 2, -1, "x 1 1;".repeat(99) + "x 1 2;"), 0);
        DUE.same("its last line", x.function(0, false, 1), 2);
    }

    /** "NONE, and nothing comes, if there would be more than 600." */
    private static void feedBeyondTheEdge() {
        for (int length : new int[] {581, 590, 599, 600}) {
            CurveShares x = new CurveShares();
            Due.put(x, "far 4;" + " ".repeat(594));
            DUE.same("end", x.end(length), length);
            DUE.same("feed behind " + length, x.feed(0x23232323, 0, 0, 0, 0), -1);
            DUE.same("no more of them", x.end(length + 1), -1);
            DUE.same("as many of them", x.end(length), length);
            DUE.same("nothing came", x.text(1, -1), 0);
            DUE.same("what was there", x.sum(0, 1), 4);
        }
    }

    /** "Of each number the highest first." */
    private static void feedHighestFirst() {
        CurveShares x = new CurveShares();
        x.feed(0x78203031, 0x323b7820, 0x31203131, 0x3b782032, 0x2031303b);
        DUE.same("x 012; is no text", x.text(2, -1), -1);
        DUE.same("its place", x.fault(1), 2);
        x.feed(0x78203020, 0x313b7820, 0x3120323b, 0x78203220, 0x20330a3b);
        DUE.same("five numbers", x.text(2, -1), 0);
        for (int i = 0; i < 3; i++) {
            DUE.same("coefficient " + i, x.function(0, false, i), i + 1);
        }
        // Bytes of 128 and more are neither blanks nor letters nor digits.
        for (int sign : new int[] {0x80, 0x8a, 0xa0, 0xad, 0xb0, 0xbb, 0xe1, 0xff}) {
            DUE.same("feed " + sign, x.feed(sign << 24, 0, 0, 0, 0), 20);
            DUE.same("cut", x.end(1), 1);
            DUE.same("text " + sign, x.text(2, -1), -1);
            DUE.same("FAULT", x.fault(0), 1);
            DUE.same("place", x.fault(1), 0);
        }
    }

    /** "The tape has its first n bytes alone: n." */
    private static void endInside() {
        CurveShares x = new CurveShares();
        DUE.same("end(0) of an empty one", x.end(0), 0);
        Due.put(x, "far 1;far 2;#");
        DUE.same("end of all", x.end(13), 13);
        DUE.same("end of one less", x.end(12), 12);
        DUE.same("what was cut is gone", x.end(13), -1);
        DUE.same("end again", x.end(6), 6);
        DUE.same("the next come behind it", x.feed(0x66617220, 0x333b2020, 0x20202020, 0x20202020, 0x20202020), 26);
        DUE.same("text", x.text(1, -1), 0);
        DUE.same("both lines", x.sum(0, 1), 3);
        Due.put(x, "far 5;");
        DUE.same("end(0)", x.end(0), 0);
        DUE.same("nothing is left", x.text(1, 0), 0);
        DUE.same("an empty SUM", x.sum(0, 1), 0);
        Due.put(x, "far 5;");
        DUE.same("end(1)", x.end(1), 1);
        DUE.same("one byte is left", x.text(1, 0), -1);
        DUE.same("at its place", x.fault(1), 0);
    }

    /** "NONE if it has not so many, or n is below 0." */
    private static void endOutside() {
        for (int n : new int[] {-1, 7, 8, 600, 601, -600, Integer.MIN_VALUE, Integer.MAX_VALUE}) {
            Seen.refused(DUE, "end(" + n + ") of 6", x -> x.end(n), -1);
        }
        CurveShares full = new CurveShares();
        Due.put(full, " ".repeat(600));
        DUE.same("end(601)", full.end(601), -1);
        DUE.same("end(600)", full.end(600), 600);
        DUE.same("end(1) of a new one", new CurveShares().end(1), -1);
        DUE.same("end(-1) of a new one", new CurveShares().end(-1), -1);
    }

    /** "As a text of a sort, a further one (at NONE): its number"; "CURVES, at most 2, SUMS, at most 3, FUNCTIONS, at most 3, from 0 on". */
    private static void textFurther() {
        String[] texts = {"prime 5; curve 0 1 0 1;", "far 2;", "x 3 4;"};
        for (int sort = 0; sort < 3; sort++) {
            CurveShares x = new CurveShares();
            for (int k = 0; k < MOST[sort]; k++) {
                DUE.same("further of sort " + sort, Due.tell(x, sort, -1, texts[sort]), k);
                DUE.same("they are counted", x.count(sort), k + 1);
                DUE.same("others are not", x.count((sort + 1) % 3) + x.count((sort + 2) % 3), 0);
            }
            DUE.same("as many as may be", Due.tell(x, sort, -1, texts[sort]), -2);
            DUE.same("no more came", x.count(sort), MOST[sort]);
        }
    }

    /** "Or in the place of one: its number." What stood there is gone, the others stay. */
    private static void textInThePlaceOfOne() {
        CurveShares x = new CurveShares();
        for (int k = 0; k < 3; k++) {
            Due.tell(x, 1, -1, "far " + (k + 1) + "; at 0 1 5;");
            Due.tell(x, 2, -1, "x 0 " + (k + 1) + "; y 2 5;");
        }
        for (int k = 2; k >= 0; k--) {
            DUE.same("SUM in the place", Due.tell(x, 1, k, "far " + (k + 5) + ";"), k);
            DUE.same("FUNCTION in the place", Due.tell(x, 2, k, "x 0 " + (k + 5) + ";"), k);
            for (int i = 0; i < 3; i++) {
                DUE.same("far", x.sum(i, 1), i < k ? i + 1 : i + 5);
                DUE.same("ENTRIES", x.sum(i, 0), i < k ? 1 : 0);
                DUE.same("of 1", x.function(i, false, 0), i < k ? i + 1 : i + 5);
                DUE.same("of x * x * y", x.function(i, true, 2), i < k ? 5 : 0);
            }
        }
        DUE.same("none came", x.count(1) * 10 + x.count(2), 33);
        CurveShares y = Due.on("prime 5; curve 0 1 0 0 0 1;");
        DUE.same("CURVE in the place", Due.tell(y, 0, 0, "prime 11;"), 0);
        DUE.same("told from the first", y.curve(0, 13), 1);
        DUE.same("of degree 3", y.curve(0, 1), 3);
        DUE.same("of the new prime", y.curve(0, 0), 11);
    }

    /** "-2: there is none such, there are as many as may be, or no such sort (no text is read then, FAULT 0)", and the tape is taken. */
    private static void textRefused() {
        int[][] calls = {{0, 2}, {0, -2}, {0, -1}, {1, 3}, {1, -2}, {1, -1}, {2, 3}, {2, -2}, {2, -1}, {3, -1}, {3, 0}, {-1, -1}, {-1, 0},
            {0, Integer.MIN_VALUE}, {1, Integer.MAX_VALUE}, {2, Integer.MAX_VALUE}, {Integer.MIN_VALUE, -1}, {Integer.MAX_VALUE, 0}};
        for (int[] call : calls) {
            String name = "text(" + call[0] + ", " + call[1] + ")";
            CurveShares x = Seen.sample();
            String before = Seen.of(x);
            before = before.substring(before.indexOf('\n'));
            DUE.same(name, x.text(call[0], call[1]), -2);
            String after = Seen.of(x);
            DUE.same(name + " has no FAULT, and the tape is empty", after.startsWith("0 0 -1\n"), true);
            DUE.same(name + " leaves what is told", after.substring(after.indexOf('\n')).equals(before), true);
            DUE.same(name + " leaves the images", x.again(0) && !x.again(1) && !x.again(2), true);
        }
        for (int sort = 0; sort < 3; sort++) {
            CurveShares x = new CurveShares();
            DUE.same("in the place of none of sort " + sort, Due.tell(x, sort, 0, ""), -2);
            DUE.same("none came", x.count(sort), 0);
            Due.tell(x, sort, -1, "");
            DUE.same("in the place of the next one", Due.tell(x, sort, 1, ""), -2);
            DUE.same("none came", x.count(sort), 1);
        }
    }

    /** "NONE: a FAULT." The tape is empty then, too, and all that is told is as it was. */
    private static void textWithAFault() {
        int[][] calls = {{0, 0}, {0, 1}, {1, 0}, {1, 2}, {2, 0}, {2, 2}};
        String[] lines = {"prime 5; curve 0 1 0 1; prime 4;", "far 2; at 0 1 1; far 10;", "x 0 3; y 0 3; y 3 1;"};
        for (int[] call : calls) {
            for (String text : new String[] {lines[call[0]], lines[call[0]] + "#"}) {
                CurveShares x = Seen.sample();
                String before = Seen.of(x);
                before = before.substring(before.indexOf('\n'));
                DUE.same("text " + text, Due.tell(x, call[0], call[1], text), -1);
                String after = Seen.of(x);
                DUE.same("the tape is empty behind " + text, after.startsWith("0 "), true);
                DUE.same("the rest stays behind " + text, after.substring(after.indexOf('\n')).equals(before), true);
            }
        }
        for (int sort = 0; sort < 3; sort++) {
            CurveShares x = new CurveShares();
            DUE.same("a further one with a FAULT", Due.tell(x, sort, -1, "#"), -1);
            DUE.same("none came", x.count(sort), 0);
            DUE.same("the tape is empty", x.end(1), -1);
        }
        CurveShares x = new CurveShares();
        Due.tell(x, 1, -1, "far 3;");
        DUE.same("the tape is empty behind a text", x.end(1), -1);
    }

    /** "Of the latest text(), what 0: the FAULT, 0 without, 1: its place, NONE without. NONE for another what." */
    private static void faultOfTheLatest() {
        CurveShares x = new CurveShares();
        Due.tell(x, 1, -1, "far 10;");
        DUE.same("the FAULT", x.fault(0), 2);
        DUE.same("its place", x.fault(1), 4);
        for (int what : new int[] {2, -1, 3, 4}) {
            DUE.same("fault(" + what + ")", x.fault(what), -1);
        }
        for (int what : Seen.BEYOND) {
            DUE.same("fault(" + what + ")", x.fault(what), -1);
        }
        x.feed(0, 0, 0, 0, 0);
        x.end(3);
        DUE.same("other calls leave it", x.fault(0), 2);
        DUE.same("other calls leave its place", x.fault(1), 4);
        Due.tell(x, 1, -1, "#");
        DUE.same("the latest FAULT", x.fault(0), 1);
        DUE.same("at place 0", x.fault(1), 0);
        Due.tell(x, 1, -1, "far 1;");
        DUE.same("0 without", x.fault(0), 0);
        DUE.same("NONE without", x.fault(1), -1);
    }

    /** "How many there are of a sort. -2 for another one." */
    private static void countOfASort() {
        CurveShares x = Seen.sample();
        DUE.same("CURVES", x.count(0), 2);
        DUE.same("SUMS", x.count(1), 3);
        DUE.same("FUNCTIONS", x.count(2), 3);
        for (int sort : new int[] {3, -1}) {
            Seen.refused(DUE, "count(" + sort + ")", y -> y.count(sort), -2);
        }
        for (int sort : Seen.BEYOND) {
            DUE.same("count(" + sort + ")", x.count(sort), -2);
        }
    }

    /** "Image k (0 .. 2) is all that is told: true; false for another k." "false if there is none such." */
    private static void imageAndAgain() {
        for (int k = 0; k < 3; k++) {
            CurveShares x = Seen.sample();
            String before = Seen.of(x);
            DUE.same("image " + k, x.image(k), true);
            DUE.same("image " + k + " changes nothing", Seen.of(x).equals(before), true);
            Due.tell(x, 0, 0, "prime 13;");
            Due.tell(x, 1, 2, "at 0 1 1;");
            Due.tell(x, 2, 1, "x 4 4;");
            Due.put(x, " ".repeat(500));
            DUE.same("it is told anew", Seen.of(x).equals(before), false);
            DUE.same("again " + k, x.again(k), true);
            DUE.same("all is as it was", Seen.of(x).equals(before), true);
            DUE.same("the tape, too", x.text(1, 0), 0);
            DUE.same("what is on it, too", x.sum(0, 1), 7);
            DUE.same("again " + k + " once more", x.again(k), true);
            DUE.same("all is as it was once more", Seen.of(x).equals(before), true);
        }
        for (int k : new int[] {3, -1, Integer.MIN_VALUE, Integer.MAX_VALUE}) {
            Seen.refused(DUE, "image(" + k + ")", x -> x.image(k) ? 1 : 0, 0);
            Seen.refused(DUE, "again(" + k + ")", x -> x.again(k) ? 1 : 0, 0);
        }
        for (int k = 1; k < 3; k++) {
            int none = k;
            Seen.refused(DUE, "again(" + k + ") of none", x -> x.again(none) ? 1 : 0, 0);
        }
        CurveShares full = new CurveShares();
        Due.put(full, " ".repeat(599) + "#");
        full.image(2);
        full.end(0);
        full.again(2);
        DUE.same("a full tape is full again", full.feed(0, 0, 0, 0, 0), -1);
        DUE.same("its last byte is told again", full.text(1, -1), -1);
        DUE.same("at its place", full.fault(1), 599);
    }

    /** "Other images stay." */
    private static void imagesApart() {
        CurveShares x = new CurveShares();
        for (int k = 0; k < 3; k++) {
            Due.tell(x, 1, -1, "far " + k + ";");
            x.image(k);
        }
        for (int k : new int[] {2, 0, 1, 0, 2, 1}) {
            DUE.same("again " + k, x.again(k), true);
            DUE.same("SUMS of image " + k, x.count(1), k + 1);
            DUE.same("its last one", x.sum(k, 1), k);
        }
        x.image(0);
        x.again(2);
        DUE.same("image 2", x.count(1), 3);
        x.again(0);
        DUE.same("image 0 is the new one", x.count(1), 2);
        Due.tell(x, 1, 0, "far 9;");
        x.again(0);
        DUE.same("what is told later is not in the image", x.sum(0, 1), 0);
    }

    /** "A PRIME p: 3, 5, 7, 11, 13." */
    private static void primes() {
        for (int n = 0; n <= 99; n++) {
            boolean is = n == 3 || n == 5 || n == 7 || n == 11 || n == 13;
            fault(0, "curve 0 1 0 1; prime " + n + ";", is ? 0 : 2, is ? -1 : 21);
        }
        fault(0, "curve 0 1 0 1; prime 03;", 0, -1);
        fault(0, "curve 0 1 0 1; prime 00;", 2, 21);
    }

    /** "COEFFICIENTS 0 .. 12"; FAULT 4: "a COEFFICIENT not below p". */
    private static void coefficients() {
        for (int p : new int[] {3, 5, 7, 11, 13}) {
            String begin = "prime " + p + "; curve ";
            fault(0, begin + "0 " + (p - 1) + " 0 1;", 0, -1);
            String out = begin + "0 " + p + " 0 1;";
            fault(0, out, p == 13 ? 2 : 4, p == 13 ? begin.length() + 2 : out.length());
            for (int at = 0; at < 6; at++) {
                for (int value : new int[] {p, 12, 13, 99}) {
                    StringBuilder text = new StringBuilder(begin);
                    int place = 0;
                    for (int i = 0; i < 6; i++) {
                        place = i == at ? text.length() : place;
                        text.append(i == at ? value : i == 1 || i == 5 ? 1 : 0).append(i < 5 ? " " : ";");
                    }
                    if (value > 12) {
                        fault(0, text.toString(), 2, place);
                    } else if (value >= p) {
                        fault(0, text.toString(), 4, text.length());
                    }
                }
            }
        }
        fault(0, "prime 13; curve 12 0 0 12;", 0, -1);
        fault(0, "curve 12 0 0 1; prime 13;", 0, -1);
        fault(0, "curve 13 0 0 1; prime 13;", 2, 6);
    }

    /** FAULT 4: "the last one 0". */
    private static void lastCoefficients() {
        fault(0, "curve 0 1 0 0;", 4, 14);
        fault(0, "curve 0 1 0 1 0 0;", 4, 18);
        fault(0, "curve 0 1 0 0 1 0;", 4, 18);
        fault(0, "curve 0 1 0 0 0 1;", 0, -1);
        fault(0, "curve 1 0 0 6;", 0, -1);
        fault(0, "curve 1 0 0 0;", 4, 14);
        fault(0, "curve 0 0 0 0;", 4, 14);
        fault(0, "curve 0 0 0 0 0 0;", 4, 18);
    }

    /** FAULT 4: "F has a square of a polynomial that is not a number as a factor". */
    private static void squares() {
        fault(0, "curve 0 0 0 1;", 4, 14);
        fault(0, "curve 0 0 1 1;", 4, 14);
        fault(0, "curve 0 1 1 1;", 0, -1);
        fault(0, "curve 0 1 2 1;", 4, 14);
        fault(0, "curve 1 0 0 1;", 0, -1);
        fault(0, "prime 3; curve 1 0 0 1;", 4, 23);
        fault(0, "prime 3; curve 1 1 0 1;", 0, -1);
        // x * (x * x + 1) * (x * x + 1): the square is one of a polynomial without a root.
        fault(0, "curve 0 1 0 2 0 1;", 4, 18);
        fault(0, "prime 3; curve 0 1 0 2 0 1;", 4, 27);
        fault(0, "prime 5; curve 2 0 0 0 0 3;", 4, 27);
        fault(0, "prime 5; curve 2 1 0 0 0 3;", 0, -1);
        // 2 is a square that divides every F, but a number.
        fault(0, "curve 2 0 0 2;", 0, -1);
    }

    /** "'curve' NUMBER NUMBER NUMBER NUMBER [NUMBER NUMBER]": 4 or 6, none, 3, 5 or 7. */
    private static void curveLines() {
        fault(0, "curve;", 1, 5);
        fault(0, "curve 0 1 0;", 1, 11);
        fault(0, "curve 0 1 0 1;", 0, -1);
        fault(0, "curve 0 1 0 1 0;", 1, 15);
        fault(0, "curve 0 1 0 0 0 1;", 0, -1);
        fault(0, "curve 0 1 0 0 0 1 1;", 1, 18);
        fault(0, "prime;", 1, 5);
        fault(0, "prime 7 7;", 1, 8);
        fault(0, "", 0, -1);
        fault(0, ";", 1, 0);
        for (String word : new String[] {"at", "far", "x", "y", "curves", "p", "c"}) {
            fault(0, word + " 0 1 0 1;", 1, 0);
        }
    }

    /** "A POINT's X, Y, 0 .. 12, and how often": three numbers, the first two without a sign. */
    private static void entries() {
        fault(1, "at 0 0 0;", 0, -1);
        fault(1, "at 12 12 5;", 0, -1);
        fault(1, "at 13 12 5;", 2, 3);
        fault(1, "at 12 13 5;", 2, 6);
        fault(1, "at 99 99 9;", 2, 3);
        fault(1, "at -1 0 0;", 1, 3);
        fault(1, "at 0 -1 0;", 1, 5);
        fault(1, "at 0 0;", 1, 6);
        fault(1, "at 0 0 0 0;", 1, 9);
        fault(1, "at 0 0 --1;", 1, 8);
        fault(1, "at 0 0 1-;", 1, 8);
        fault(1, "far;", 1, 3);
        fault(1, "far 1 1;", 1, 6);
        fault(1, "far -;", 1, 5);
        for (String word : new String[] {"prime", "curve", "x", "y", "a", "fa", "att"}) {
            fault(1, word + " 0 0 0;", 1, 0);
        }
    }

    /** "ENTRIES, at most 8"; FAULT 3: "a 9th ENTRY (at), at its first token"; a line with a NUMBER that can't be tells its ENTRY all the same. */
    private static void ninthEntry() {
        String line = "at 0 1 1;";
        fault(1, line.repeat(7), 0, -1);
        fault(1, line.repeat(8), 0, -1);
        fault(1, line.repeat(8) + "far 9;", 0, -1);
        fault(1, line.repeat(9), 3, 72);
        fault(1, line.repeat(8) + "far 9;\n " + line, 3, 80);
        fault(1, line.repeat(8) + "at 13 1 1;", 3, 72);
        fault(1, line.repeat(8) + "at 1 1 6;", 3, 72);
        fault(1, line.repeat(7) + "at 1 1 6;" + line, 2, 70);
        fault(1, "at 1 1 6;" + line.repeat(8), 2, 7);
        fault(1, line.repeat(8) + "at 1 1;", 1, 78);
        fault(1, line.repeat(8) + "at", 1, 74);
        fault(1, line.repeat(66), 3, 72);
        CurveShares x = new CurveShares();
        Due.tell(x, 1, -1, line.repeat(8));
        DUE.same("8 ENTRIES", x.sum(0, 0), 8);
    }

    /** "How often, -5 .. 5; of FAR how often, -9 .. 9"; "a SIGNED one: at its number". */
    private static void often() {
        for (int n = 0; n <= 12; n++) {
            fault(1, "at 0 1 " + n + ";", n <= 5 ? 0 : 2, n <= 5 ? -1 : 7);
            fault(1, "at 0 1 -" + n + ";", n <= 5 ? 0 : 2, n <= 5 ? -1 : 8);
            fault(1, "at 0 1 - " + n + ";", n <= 5 ? 0 : 2, n <= 5 ? -1 : 9);
            fault(1, "far " + n + ";", n <= 9 ? 0 : 2, n <= 9 ? -1 : 4);
            fault(1, "far -" + n + ";", n <= 9 ? 0 : 2, n <= 9 ? -1 : 5);
            for (int sign = -1; sign <= 1; sign += 2) {
                CurveShares x = new CurveShares();
                String minus = sign < 0 ? "-" : "";
                if (Due.tell(x, 1, -1, "at 0 1 " + minus + n + "; far " + minus + n + ";") == 0) {
                    DUE.same("often", x.sum(0, 30), sign * n);
                    DUE.same("FAR often", x.sum(0, 1), sign * n);
                }
            }
        }
    }

    /** "Coefficients, 0 .. 12, of 1, x, .. to the 4th in A, of 1, x, x * x in B." */
    private static void functionNumbers() {
        for (int n = 0; n <= 14; n++) {
            fault(2, "x " + n + " 0;", n <= 4 ? 0 : 2, n <= 4 ? -1 : 2);
            fault(2, "y " + n + " 0;", n <= 2 ? 0 : 2, n <= 2 ? -1 : 2);
            fault(2, "x 0 " + n + ";", n <= 12 ? 0 : 2, n <= 12 ? -1 : 4);
            fault(2, "y 2 " + n + ";", n <= 12 ? 0 : 2, n <= 12 ? -1 : 4);
        }
        fault(2, "x 5 13;", 2, 2);
        fault(2, "x 4 -1;", 1, 4);
        fault(2, "x -4 1;", 1, 2);
        fault(2, "x 1;", 1, 3);
        fault(2, "x 1 1 1;", 1, 6);
        for (String word : new String[] {"prime", "curve", "at", "far", "z", "xx", "yx"}) {
            fault(2, word + " 0 0;", 1, 0);
        }
    }

    /** "TOKENS, as long as they go, blanks (10, 32) between: words, rows of letters a .. z; NUMBERS, 1 or 2 digits; - and ; one byte each." */
    private static void tokens() {
        fault(2, "x0 0;x\n1 \n\n 2\n;\n", 0, -1);
        fault(2, "x 00 12;", 0, -1);
        fault(2, "x 0 012;", 1, 4);
        fault(2, "x 0 000;", 1, 4);
        fault(2, "x 000 0;", 1, 2);
        fault(2, "x 0 1 2;", 1, 6);
        fault(2, "x00 12;x 0012;", 1, 9);
        fault(2, "x 0 12x 0 1;", 1, 6);
        fault(2, "x 0 1;x0 1;y2 1;", 0, -1);
        fault(1, "at0 1-5;far-9;", 0, -1);
        fault(1, "atfar 1;", 1, 0);
        fault(1, "at 01 01 05;far 09;far -09;", 0, -1);
        fault(1, "far 010;", 1, 4);
    }

    /** "1 the first byte or token with which no text goes on": each sign behind a line, before a NUMBER, behind a word. */
    private static void signs() {
        for (int sign = 0; sign < 256; sign++) {
            String told = String.valueOf((char) sign);
            if (sign == 10 || sign == 32) {
                fault(1, "far 1;" + told, 0, -1);
                fault(1, "far " + told + ";", 1, 5);
                fault(1, "far" + told + "1;", 0, -1);
            } else if (sign >= 'a' && sign <= 'z') {
                fault(1, "far 1;" + told, 1, 6);
                fault(1, "far " + told + ";", 1, 4);
                fault(1, "far" + told + "1;", 1, 0);
            } else if (sign >= '0' && sign <= '9') {
                fault(1, "far 1;" + told, 1, 6);
                fault(1, "far " + told + ";", 0, -1);
                fault(1, "far" + told + "1;", sign == '0' ? 0 : 2, sign == '0' ? -1 : 3);
            } else if (sign == '-') {
                fault(1, "far 1;-", 1, 6);
                fault(1, "far -;", 1, 5);
                fault(1, "far-1;", 0, -1);
            } else {
                fault(1, "far 1;" + told, 1, 6);
                fault(1, "far " + told + ";", 1, 4);
                fault(1, "far" + told + "1;", 1, 3);
            }
        }
    }

    /** Each line ends with ; and with nothing else. */
    private static void signsInThePlaceOfTheLast() {
        int[] sorts = {0, 0, 0, 1, 1, 2, 2};
        String[] lines = {"prime 07", "curve 1 0 0 01", "curve 0 1 0 0 0 01", "at 0 1 01", "far 01", "x 1 01", "y 1 01"};
        for (int i = 0; i < lines.length; i++) {
            int length = lines[i].length();
            for (int sign = 0; sign < 256; sign++) {
                boolean blank = sign == 10 || sign == 32;
                boolean digit = sign >= '0' && sign <= '9';
                int place = sign == ';' ? -1 : blank ? length + 1 : digit ? length - 2 : length;
                fault(sorts[i], lines[i] + (char) sign, sign == ';' ? 0 : 1, place);
                if (sign != ';') {
                    fault(sorts[i], lines[i] + (char) sign + lines[i] + ";", 1, Math.min(place, length + (blank ? 1 : 0)));
                }
            }
            boolean more = lines[i].equals("curve 1 0 0 01");
            fault(sorts[i], lines[i] + " 123;", 1, length + 1);
            fault(sorts[i], lines[i] + " 1;", 1, more ? length + 2 : length + 1);
            fault(sorts[i], lines[i] + "-;", 1, length);
            fault(sorts[i], lines[i] + ";;", 1, length + 1);
        }
    }

    /** "Later ones strike, but ENTRIES, which are further ones." */
    private static void struck() {
        CurveShares x = new CurveShares();
        DUE.same("CURVE", Due.tell(x, 0, -1, "prime 3; curve 1 2 0 0 0 1; prime 13; curve 12 0 0 2; prime 11;"), -1);
        DUE.same("12 is not below 11", x.fault(0), 4);
        DUE.same("CURVE", Due.tell(x, 0, -1, "prime 3; curve 1 2 0 0 0 1; prime 11; curve 10 0 0 2; prime 13;"), 0);
        DUE.same("p", x.curve(0, 0), 13);
        DUE.same("degree", x.curve(0, 1), 3);
        DUE.same("of 1", x.curve(0, 10), 10);
        DUE.same("of x", x.curve(0, 11), 0);
        DUE.same("of x to the 3rd", x.curve(0, 13), 2);
        DUE.same("of x to the 4th", x.curve(0, 14), -1);
        DUE.same("CURVE", Due.tell(x, 0, -1, "curve 0 0 0 0; curve 1 2 0 0 0 1; prime 3;"), 1);
        DUE.same("degree", x.curve(1, 1), 5);
        DUE.same("SUM", Due.tell(x, 1, -1, "far 9; at 0 1 1; far -2; at 0 1 2; at 0 1 1;"), 0);
        DUE.same("FAR", x.sum(0, 1), -2);
        DUE.same("ENTRIES", x.sum(0, 0), 3);
        DUE.same("FUNCTION", Due.tell(x, 2, -1, "x 4 5; y 2 6; x 4 7; y 2 0;"), 0);
        DUE.same("of x to the 4th", x.function(0, false, 4), 7);
        DUE.same("of x * x * y", x.function(0, true, 2), 0);
    }

    /** "If there is none, the first by place, of one place the least"; "if there is none of these, at the end's place: 4". */
    private static void firstByPlace() {
        fault(0, "prime 4; curve 13 0 0 0; #", 1, 25);
        fault(0, "prime 4; curve 13 0 0 0;", 2, 6);
        fault(0, "curve 13 0 0 0; prime 4;", 2, 6);
        fault(0, "curve 0 0 0 0; prime 4;", 2, 21);
        fault(0, "curve 0 0 0 0; prime 4; x", 1, 24);
        fault(0, "curve 0 0 0 0; prime 5;", 4, 23);
        fault(1, "far 10; at 13 0 0;", 2, 4);
        fault(1, "at 13 13 6;", 2, 3);
        fault(1, "at 0 0 1;".repeat(8) + "at 0 0 1; far 10;", 3, 72);
        fault(1, "at 0 0 1;".repeat(8) + "far 10; at 0 0 1;", 2, 76);
        fault(1, "at 0 0 1;".repeat(8) + "far 10; at 0 0 1", 1, 88);
        fault(2, "x 5 13; y 3 13;;", 1, 15);
    }

    /** "Places (a token's first byte; the end's)": the end's is how many bytes the tape has. */
    private static void endsPlace() {
        fault(0, "prime", 1, 5);
        fault(0, "prime  ", 1, 7);
        fault(0, "prime 7", 1, 7);
        fault(0, "curve 1 0 0 0; ", 4, 15);
        fault(0, "\n curve 1 0 0 0;\n\n", 4, 18);
        fault(1, "  ", 0, -1);
        fault(1, "at", 1, 2);
        fault(1, "at 1", 1, 4);
        fault(1, "at 1 1", 1, 6);
        fault(1, "at 1 1 -", 1, 8);
        fault(1, "at 1 1 -1", 1, 9);
        fault(1, " ".repeat(597) + "far", 1, 600);
        fault(0, "curve 0 0 0 0;" + " ".repeat(586), 4, 600);
        fault(2, "x", 1, 1);
        fault(2, "x 1", 1, 3);
        fault(2, "x 1 1", 1, 5);
    }

    /** "An object is used for at most 512 calls after it has been made": the 512th answers as one of the first. */
    private static void lastCall() {
        CurveShares x = new CurveShares();
        int calls = 0;
        while (calls < 508) {
            DUE.same("feed, call " + calls, x.feed(0x66617220, 0x353b2020, 0x20202020, 0x20202020, 0x20202020), 20);
            DUE.same("text, call " + calls, x.text(1, calls == 0 ? -1 : 0), 0);
            DUE.same("image, call " + calls, x.image(calls % 3), true);
            DUE.same("again, call " + calls, x.again(calls % 3), true);
            calls += 4;
        }
        DUE.same("call 509", x.text(0, -1), 0);
        DUE.same("call 510", x.room(0, 0, 1), 5);
        DUE.same("call 511", x.torsion(0, 0), 6);
        DUE.same("call 512", x.mended(0, 0, 1, 0, 0, 0), -1);
    }
}
