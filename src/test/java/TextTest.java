import java.util.ArrayList;
import java.util.List;
import java.util.Random;
import java.util.regex.Matcher;
import java.util.regex.Pattern;

/** Promises 1 to 5 and 31: the tape, the texts and their FAULTS. */
public final class TextTest {
    private static final Due DUE = new Due();
    private static final Pattern TOKEN = Pattern.compile("[ \\n]*(?:([a-z]+)|([0-9]+)|([^ \\n]))", Pattern.DOTALL);
    private static final Pattern[] GRAMMARS = {
        Pattern.compile("(?:(?:pn|cnnnn(?:nn)?)s)*"),
        Pattern.compile("(?:(?:annm?n|fm?n)s)*"),
        Pattern.compile("(?:[xy]nns)*"),
    };

    public static void main(String[] args) {
        newObject();
        tape();
        refusals();
        faults();
        randomTexts();
        DUE.end();
    }

    private static void newObject() {
        CurveShares x = new CurveShares();
        for (int sort = -1; sort <= 3; sort++) {
            DUE.same("count of a new object", x.count(sort), sort < 0 || sort > 2 ? -2 : 0);
        }
        DUE.same("fault 0", x.fault(0), 0);
        DUE.same("fault 1", x.fault(1), -1);
        DUE.same("fault 2", x.fault(2), -1);
        DUE.same("fault -1", x.fault(-1), -1);
        for (int k = -1; k <= 3; k++) {
            DUE.same("again of a new object", x.again(k), false);
        }
        DUE.same("curve", x.curve(0, 0), -1);
        DUE.same("sum", x.sum(0, 0), -100);
        DUE.same("function", x.function(0, false, 0), -1);
    }

    private static void tape() {
        CurveShares x = new CurveShares();
        DUE.same("end of more", x.end(1), -1);
        DUE.same("end below 0", x.end(-1), -1);
        for (int n = 20; n <= 600; n += 20) {
            DUE.same("feed", x.feed(0, 0, 0, 0, 0), n);
        }
        DUE.same("feed of too much", x.feed(0, 0, 0, 0, 0), -1);
        DUE.same("end of 601", x.end(601), -1);
        DUE.same("end of 581", x.end(581), 581);
        DUE.same("feed over the edge", x.feed(0, 0, 0, 0, 0), -1);
        DUE.same("end of 580", x.end(580), 580);
        DUE.same("feed to the edge", x.feed(0, 0, 0, 0, 0), 600);
        DUE.same("end of all", x.end(600), 600);
        DUE.same("text of zeros", x.text(0, -1), -1);
        DUE.same("its fault", x.fault(0), 1);
        DUE.same("its place", x.fault(1), 0);
        DUE.same("the tape is empty", x.end(1), -1);
        DUE.same("the tape is empty", x.end(0), 0);
        x.feed(0x3b3b3b3b, 0, 0, 0, 0x80ffffff);
        DUE.same("text", x.text(2, -1), -1);
        Due.put(x, "x 1 2" + " ".repeat(15));
        DUE.same("two parts", x.feed(0x3b000000, 0, 0, 0, 0), 40);
        x.end(21);
        DUE.same("text of two parts", x.text(2, -1), 0);
        DUE.same("its coefficient", x.function(0, false, 1), 2);
        cutOff(x, "far 12; ", 5, 1, 5);
        cutOff(x, "farther", 3, 1, 3);
        cutOff(x, "far   1;", 4, 1, 4);
        cutOff(x, "far 10;;", 5, 1, 5);
        cutOff(x, "far 1;at", 6, 0, -1);
        cutOff(x, "far 1;  ;", 7, 0, -1);
    }

    /** What stood behind the end is gone. */
    private static void cutOff(CurveShares x, String text, int n, int fault, int place) {
        Due.put(x, text);
        x.end(n);
        x.text(1, x.count(1) == 0 ? -1 : 0);
        DUE.same("fault of " + text + " cut", x.fault(0), fault);
        DUE.same("place of " + text + " cut", x.fault(1), place);
    }

    private static void refusals() {
        int[] most = {2, 3, 3};
        for (int sort = 0; sort < 3; sort++) {
            CurveShares x = new CurveShares();
            refused(x, "in the place of none", sort, 0);
            for (int k = 0; k < most[sort]; k++) {
                DUE.same("further", Due.tell(x, sort, -1, ""), k);
                DUE.same("count", x.count(sort), k + 1);
                DUE.same("in its place", Due.tell(x, sort, k, " \n"), k);
                refused(x, "in the place behind", sort, k + 1);
            }
            refused(x, "too many", sort, -1);
            refused(x, "at -2", sort, -2);
            refused(x, "at the least", sort, Integer.MIN_VALUE);
            refused(x, "at the greatest", sort, Integer.MAX_VALUE);
            DUE.same("count stays", x.count(sort), most[sort]);
        }
        for (int sort : new int[] {-1, 3, Integer.MIN_VALUE, Integer.MAX_VALUE}) {
            CurveShares x = new CurveShares();
            refused(x, "no such sort", sort, -1);
            refused(x, "no such sort", sort, 0);
            DUE.same("no such sort", x.count(sort), -2);
        }
        CurveShares full = new CurveShares();
        Due.put(full, ";".repeat(600));
        full.image(0);
        DUE.same("a full tape", full.text(1, 0), -2);
        DUE.same("a full tape is taken", full.feed(0, 0, 0, 0, 0), 20);
        full.again(0);
        DUE.same("a full tape again", full.feed(0, 0, 0, 0, 0), -1);
        DUE.same("a full tape again", full.end(600), 600);
    }

    /** -2, by which no text is read, an earlier FAULT is gone, and the tape is empty. */
    private static void refused(CurveShares x, String call, int sort, int at) {
        for (String text : new String[] {"", "far 1;", "?"}) {
            Due.tell(x, 0, x.count(0) < 2 ? -1 : 0, "?");
            DUE.same("a fault", x.fault(0), 1);
            Due.put(x, text);
            DUE.same(call, x.text(sort, at), -2);
            DUE.same(call + ": no fault", x.fault(0), 0);
            DUE.same(call + ": no place", x.fault(1), -1);
            DUE.same(call + ": the tape is empty", x.end(1), -1);
            DUE.same(call + ": the tape begins anew", x.feed(0, 0, 0, 0, 0), 20);
        }
    }

    private static void fault(int sort, String text, int fault, int place) {
        CurveShares x = new CurveShares();
        DUE.same("text(" + sort + ") " + text, Due.tell(x, sort, -1, text), fault == 0 ? 0 : -1);
        DUE.same("fault of " + text, x.fault(0), fault);
        DUE.same("place of " + text, x.fault(1), place);
        DUE.same("count behind " + text, x.count(sort), fault == 0 ? 1 : 0);
        DUE.same("tape behind " + text, x.end(1), -1);
    }

    private static void faults() {
        fault(0, "", 0, -1);
        fault(0, " \n ", 0, -1);
        fault(0, "prime7;curve1 0 0 1;", 0, -1);
        fault(0, "prime 07 ; prime 13;", 0, -1);
        fault(0, "prime 007;", 1, 6);
        fault(0, "primes 7;", 1, 0);
        fault(0, "prim 7;", 1, 0);
        fault(0, "prime\t7;", 1, 5);
        fault(0, "prime 7  ", 1, 9);
        fault(0, "prime 2; prime", 1, 14);
        fault(0, "prime 7;;", 1, 8);
        fault(0, "prime -7;", 1, 6);
        fault(0, "prime 9; curve 1 1 1 99;", 2, 6);
        fault(0, "curve 1 13 1 1; prime 9;", 2, 8);
        fault(0, "curve 0 0 0 1;", 4, 14);
        fault(0, "curve 0 0 0 1; \n", 4, 16);
        fault(0, "curve 0 0 0 1; curve 1 0 0 1;", 0, -1);
        fault(0, "prime 3;", 4, 8);
        fault(0, "curve 1 0 0 0;", 4, 14);
        fault(0, "curve 1 0 0 1 1 0;", 4, 18);
        fault(0, "curve 7 0 0 1;", 4, 14);
        fault(0, "curve 7 0 0 1; prime 11;", 0, -1);
        fault(0, "prime 3; curve 1 0 1 0 0 1;", 0, -1);
        fault(0, "prime 3; curve 0 1 0 2 0 1;", 4, 27);
        fault(0, "prime 5; curve 1 4 0 0 0 1;", 0, -1);
        fault(0, "prime 5; curve 1 0 0 0 0 1;", 4, 27);
        fault(0, "curve 1 0 0 1 2;", 1, 15);
        fault(0, "curve 1 0 0 1 2 3 4;", 1, 18);
        fault(1, "at 1 2 -3; far -9;", 0, -1);
        fault(1, "at 1 2 -0; far 9;", 0, -1);
        fault(1, "at 1 2 - 6;", 2, 9);
        fault(1, "at 1 2 3 4;", 1, 9);
        fault(1, "at -1 2 3;", 1, 3);
        fault(1, "far 10;", 2, 4);
        fault(1, "far -10; at 13 0 0;", 2, 5);
        fault(1, "far 1", 1, 5);
        fault(1, "far", 1, 3);
        fault(1, "far -", 1, 5);
        String entry = "at 0 1 1;";
        fault(1, entry.repeat(8), 0, -1);
        fault(1, entry.repeat(9), 3, 72);
        fault(1, entry.repeat(10), 3, 72);
        fault(1, entry.repeat(8) + "at 99 1 1;", 3, 72);
        fault(1, entry.repeat(7) + "at 0 1 9;" + entry, 2, 70);
        fault(1, entry.repeat(8) + "far 10;" + entry, 2, 76);
        fault(1, entry.repeat(9) + "#", 1, 81);
        fault(2, "x 4 12; y 2 12; x 0 0;", 0, -1);
        fault(2, "x 5 12;", 2, 2);
        fault(2, "y 3 12;", 2, 2);
        fault(2, "y 3 13;", 2, 2);
        fault(2, "x 4 13;", 2, 4);
        fault(2, "x 1 -1;", 1, 4);
        fault(2, "x1 1;y1 1;", 0, -1);
        fault(2, "xy 1 1;", 1, 0);
        fault(2, "X 1 1;", 1, 0);
        fault(2, "xa 1 1;", 1, 0);
        fault(2, "xz 1 1;", 1, 0);
        fault(2, "x` 1 1;", 1, 1);
        fault(2, "x{ 1 1;", 1, 1);
        fault(2, "x 0 9;", 0, -1);
        fault(2, "x 0 /;", 1, 4);
        fault(2, "x 0 :;", 1, 4);
    }

    private static void randomTexts() {
        Random random = new Random(1);
        String[][] words = {{"prime", "curve"}, {"at", "far"}, {"x", "y"}};
        String[] odd = {"-", ";", "prime", "at", "far", "x", "y", "curve", "123", "#", "\n", "  ", "z", "0"};
        for (int round = 0; round < 20000; round++) {
            int sort = random.nextInt(3);
            StringBuilder text = new StringBuilder();
            for (int line = random.nextInt(11); line > 0 && text.length() < 500; line--) {
                String word = words[sort][random.nextInt(2)];
                text.append(word).append(' ');
                int numbers = word.equals("prime") || word.equals("far") ? 1 : word.equals("at") ? 3 : word.equals("curve") ? random.nextBoolean() ? 4 : 6 : 2;
                for (int i = 0; i < numbers; i++) {
                    text.append(sort == 1 && i == numbers - 1 && random.nextBoolean() ? "-" : "");
                    text.append(random.nextInt(30) == 0 ? random.nextInt(20) : word.equals("prime") ? Naive.PRIMES[random.nextInt(5)] : random.nextInt(3));
                    text.append(random.nextBoolean() ? " " : "  ");
                }
                text.append(";");
                if (random.nextInt(40) == 0) {
                    text.append(odd[random.nextInt(odd.length)]);
                }
            }
            if (random.nextInt(10) == 0 && text.length() > 0) {
                text.setLength(random.nextInt(text.length()));
            }
            int[] due = faultOf(sort, text.toString());
            fault(sort, text.toString(), due[0], due[1]);
        }
    }

    /** FAULT and place, by a pattern of the whole text's tokens. */
    private static int[] faultOf(int sort, String text) {
        List<String> tokens = new ArrayList<>();
        List<Integer> places = new ArrayList<>();
        StringBuilder kinds = new StringBuilder();
        Matcher matcher = TOKEN.matcher(text);
        for (int at = 0; matcher.find(at); at = matcher.end()) {
            int group = matcher.group(1) != null ? 1 : matcher.group(2) != null ? 2 : 3;
            tokens.add(matcher.group(group));
            places.add(matcher.start(group));
            kinds.append(kindOf(matcher.group(group), group));
        }
        for (int n = 1; n <= kinds.length(); n++) {
            Matcher prefix = GRAMMARS[sort].matcher(kinds.substring(0, n));
            if (!prefix.matches() && !prefix.hitEnd()) {
                return new int[] {1, places.get(n - 1)};
            }
        }
        if (!GRAMMARS[sort].matcher(kinds).matches()) {
            return new int[] {1, text.length()};
        }
        int[] row = {7, 1, 0, 0, 1};
        int entries = 0;
        for (int at = 0; at < tokens.size();) {
            String word = tokens.get(at);
            if (word.equals("at") && ++entries == 9) {
                return new int[] {3, places.get(at)};
            }
            List<Integer> numbers = new ArrayList<>();
            for (at++; !tokens.get(at).equals(";"); at++) {
                if (!tokens.get(at).equals("-")) {
                    int number = Integer.parseInt(tokens.get(at));
                    if (!canBe(word, numbers.size(), number)) {
                        return new int[] {2, places.get(at)};
                    }
                    numbers.add(number);
                }
            }
            at++;
            if (word.equals("prime")) {
                row[0] = numbers.get(0);
            } else if (word.equals("curve")) {
                int prime = row[0];
                row = new int[numbers.size() + 1];
                row[0] = prime;
                for (int i = 0; i < numbers.size(); i++) {
                    row[i + 1] = numbers.get(i);
                }
            }
        }
        return sort == 0 && !isCurve(row) ? new int[] {4, text.length()} : new int[] {0, -1};
    }

    private static char kindOf(String token, int group) {
        if (group == 1) {
            return List.of("prime", "curve", "at", "far", "x", "y").contains(token) ? token.charAt(0) : '?';
        }
        if (group == 2) {
            return token.length() <= 2 ? 'n' : '?';
        }
        return token.equals("-") ? 'm' : token.equals(";") ? 's' : '?';
    }

    private static boolean canBe(String word, int which, int number) {
        switch (word) {
            case "prime":
                return List.of(3, 5, 7, 11, 13).contains(number);
            case "far":
                return number <= 9;
            case "at":
                return number <= (which == 2 ? 5 : 12);
            case "x":
            case "y":
                return number <= (which == 1 ? 12 : word.equals("x") ? 4 : 2);
            default:
                return number <= 12;
        }
    }

    private static boolean isCurve(int[] row) {
        int p = row[0];
        int[] f = new int[row.length - 1];
        for (int i = 0; i < f.length; i++) {
            f[i] = row[i + 1];
            if (f[i] >= p) {
                return false;
            }
        }
        return f[f.length - 1] != 0 && !Naive.hasSquareFactor(p, f);
    }
}
