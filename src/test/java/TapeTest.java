/** Part 2 of the document up to its NAMES, at every edge: the tape, bytes, blanks, words, numbers (promises 2 to 4). */
public final class TapeTest {
    private static final String HEAD = "a = source 0 (k v) lag 1; ";
    private static final String SIGNS = "(),;:=<>+-*/%&|!?";
    private static final String[] KEYWORDS = {"source", "lag", "filter", "map", "union", "fold", "by", "span", "step", "gap", "join",
        "within", "look", "match", "then", "unique", "top", "output", "count", "sum", "least", "most", "time"};

    public static void main(String[] args) {
        howManyBytes();
        whichBytes();
        fullTape();
        usedUp();
        everyByteAlone();
        everyByteBehindAName();
        blanksPartTokens();
        tokensNeedNoBlanks();
        lettersOfANAME();
        keywordsAreNoNames();
        digitsOfANumber();
        whereTheTextEnds();
        nothingOfTheTextBefore();
        Check.end();
    }

    /** "IllegalArgument: n is not 1 .. 8." */
    private static void howManyBytes() {
        for (int n : new int[] {Integer.MIN_VALUE, -8, -1, 0, 9, 10, 64, Integer.MAX_VALUE}) {
            House x = new House();
            Check.argument("feed of " + n + " bytes", () -> x.feed(0x6161616161616161L, n));
            Check.same("bytes behind it", x.told(14), 0);
        }
        for (int n = 1; n <= 8; n++) {
            House x = new House();
            Check.same("feed of " + n + " bytes", x.feed(0x6161616161616161L, n), n);
            Check.same("feed of 1 more", x.feed(0x61, 1), n + 1);
            Check.same("bytes", x.told(14), n + 1);
        }
    }

    /** "The lowest n bytes of a number, the highest of these first, come behind the tape" */
    private static void whichBytes() {
        String text = "ab = source 3 (cd efghij) lag 7; output ab;";
        for (int n = 1; n <= 8; n++) {
            House x = new House();
            for (int at = 0; at < text.length(); at += n) {
                int size = Math.min(n, text.length() - at);
                // what stands above the lowest bytes is of no matter
                long bytes = -1;
                for (int i = 0; i < size; i++) {
                    bytes = bytes << 8 | text.charAt(at + i);
                }
                Check.same("bytes by " + n, x.feed(bytes, size), at + size);
            }
            Check.same("job fed by " + n, x.job(), 2);
            Check.same("its second column", x.operator(0, 5), 0x65666768696aL);
        }
    }

    /** "UnsupportedOperation: there would be more than 1500." */
    private static void fullTape() {
        for (int n = 1; n <= 8; n++) {
            int size = n;
            House x = blanks(1500 - n + 1);
            Check.room("more than 1500 by " + n, () -> x.feed(0x2020202020202020L, size));
            Check.same("nothing came behind the tape", x.told(14), 1500 - n + 1);
            House y = blanks(1500 - n);
            Check.same("just 1500 by " + n, y.feed(0x2020202020202020L, size), 1500);
            Check.room("1501", () -> y.feed(0x20, 1));
            Check.argument("the number of bytes is looked at first", () -> y.feed(0x20, 9));
            Check.argument("the number of bytes is looked at first", () -> y.feed(0x20, 0));
            Check.same("1500 stay", y.told(14), 1500);
        }
        String text = HEAD + "output a;";
        House whole = blanks(1500 - text.length());
        Check.feed(whole, text);
        Check.same("a job up to byte 1500", whole.job(), 2);
        House early = blanks(1500 - text.length() + 1);
        Check.feed(early, text.substring(0, text.length() - 1));
        Check.same("a job that lacks its last byte", early.job(), -1501);
        Check.same("its fault", early.fault(), 3);
    }

    private static House blanks(int n) {
        House x = new House();
        for (int i = n; i > 0; i -= 8) {
            x.feed(0x2020202020202020L, Math.min(8, i));
        }
        return x;
    }

    /** "job() uses it up" */
    private static void usedUp() {
        House x = blanks(1500);
        Check.same("a job of blanks", x.job(), -1501);
        Check.same("the tape", x.told(14), 0);
        Check.same("it has room again", x.feed(0x61, 1), 1);
        Check.same("the text is the new one alone", x.job(), -2);
        Check.same("no text at all", x.job(), -1);
        Check.same("its fault", x.fault(), 3);
        Check.feed(x, HEAD + "output a;");
        Check.same("a job", x.job(), 2);
        Check.same("the tape", x.told(14), 0);
        Check.same("no fault", x.fault(), 0);
        Check.same("no text", x.job(), -1);
        Check.same("its fault", x.fault(), 3);
        Check.same("the job stays", x.told(0), 2);
    }

    private static boolean isLetter(int b) {
        return b >= 'a' && b <= 'z';
    }

    private static boolean isDigit(int b) {
        return b >= '0' && b <= '9';
    }

    private static void everyByteAlone() {
        for (int b = 0; b < 256; b++) {
            House x = new House();
            x.feed(b, 1);
            boolean begins = b <= 32 || isLetter(b);
            boolean token = isDigit(b) || SIGNS.indexOf(b) >= 0;
            Check.same("job of byte " + b, x.job(), begins ? -2 : -1);
            Check.same("fault of byte " + b, x.fault(), begins ? 3 : token ? 4 : 1);
        }
    }

    private static void everyByteBehindAName() {
        String before = HEAD + "output a";
        for (int b = 0; b < 256; b++) {
            House x = new House();
            Check.feed(x, before);
            x.feed(b, 1);
            x.feed(';', 1);
            int place = isLetter(b) ? before.length() - 1 : b == ';' ? before.length() + 1 : before.length();
            int fault = b <= 32 ? 0 : isLetter(b) ? 5 : isDigit(b) || SIGNS.indexOf(b) >= 0 ? 4 : 1;
            Check.same("job with byte " + b, x.job(), b <= 32 ? 2 : -1 - place);
            Check.same("fault with byte " + b, x.fault(), fault);
        }
    }

    /** "BLANKS, bytes up to 32, part tokens." */
    private static void blanksPartTokens() {
        for (int b = 0; b <= 32; b++) {
            char blank = (char) b;
            text("a = source 0 (k v) lag 1; output a;".replace(' ', blank), 2, 0);
            text("a = sou" + blank + "rce 0 (k) lag 1; output a;", -5, 4);
            text("a = source 0 (k) lag 1" + blank + "0; output a;", -24, 4);
            text("a = source 0 (k) lag 1; output a" + blank + "a;", -34, 4);
        }
        text(" \t\n\r a=source 0(k)lag 1;output a; \n\n", 2, 0);
    }

    private static void text(String text, int due, int fault) {
        House x = new House();
        Check.feed(x, text);
        Check.same("job: " + text, x.job(), due);
        Check.same("fault: " + text, x.fault(), fault);
    }

    /** "A token is a WORD, the longest row of letters a .. z; a NUMBER, the longest row of digits; or one of .. alone." */
    private static void tokensNeedNoBlanks() {
        text("a=source0(k)lag1;output a;", 2, 0);
        text("a=source0(k)lag1;b=top9a by k span1;output b;", 3, 0);
        text("a=source0(k)lag1;b=filter a:k<1&k>0|!k=2+-3*4/5%6?7:8;output b;", 3, 0);
        text("a=source0(k)lag1;outputa;", -18, 4);
        text("a=source0(k)lag1;b=filter a:k<=1;output b;", -31, 4);
        text("a=source0(k)lag1;b=filter a:k!=1;output b;", -30, 4);
        text("a=source0(k)lag1;b=filter a:k&&1;output b;", -31, 4);
        text("a=source0(k)lag1;b=filter a:1k;output b;", -30, 4);
    }

    /** "NAMES: words of up to 6 letters"; a longer word can't stand anywhere. */
    private static void lettersOfANAME() {
        text("a = source 0 (k) lag 0; output a;", 2, 0);
        text("abcdef = source 0 (zyxwvu) lag 0; output abcdef;", 2, 0);
        text("abcdefg = source 0 (k) lag 0; output abcdefg;", -1, 4);
        text("a = source 0 (abcdefg) lag 0; output a;", -15, 4);
        text("a = source 0 (k) lag 0; output abcdefg;", -32, 4);
        text("a = source 0 (k) lag 0; b = filter a : abcdefg; output b;", -40, 4);
        text("a = source 0 (k) lag 0; b = unique a by abcdefg within 1; output b;", -41, 4);
        text("a = source 0 (k) lag 0; b = map a : abcdefg = 1; output b;", -37, 4);
        // of a long word the last letters are no word of their own
        text("a = source 0 (k) lag 0; output aaaaaaaaa;", -32, 4);
        text("a = xxsource 0 (k) lag 0; output a;", -5, 4);
        text("a = sourceaaaaaaaasource 0 (k) lag 0; output a;", -5, 4);
        text("a".repeat(1500), -1, 4);
        text("z = source 0 (abcdef) lag 0; output z;", 2, 0);
        House x = Check.house("abcdef = source 0 (k zyxwvu) lag 0; output abcdef;");
        Check.same("NAME of one letter", x.operator(0, 4), 'k');
        Check.same("NAME of six letters", x.operator(0, 5), 0x7a7978777675L);
        Check.same("no NAME", x.operator(0, 6), 0);
    }

    /** "NAMES: words .. that are no KEYWORDS." */
    private static void keywordsAreNoNames() {
        for (String word : KEYWORDS) {
            boolean output = word.equals("output");
            text(word + " = source 0 (k) lag 0; output a;", output ? -8 : -1, 4);
            text("a = source 0 (" + word + ") lag 0; output a;", -15, 4);
            text("a = source 0 (k " + word + ") lag 0; output a;", -17, 4);
            text("a = source 0 (k) lag 0; output " + word + ";", -32, 4);
            text("a = source 0 (k) lag 0; b = map a : " + word + " = 1; output b;", -37, 4);
            text("a = source 0 (k) lag 0; b = unique a by " + word + " within 1; output b;", -41, 4);
            boolean time = word.equals("time");
            text("a = source 0 (k) lag 0; b = filter a : " + word + "; output b;", time ? 3 : -40, time ? 0 : 4);
            String shorter = word.substring(0, word.length() - 1);
            text(shorter + " = source 0 (" + shorter + ") lag 0; output " + shorter + ";", 2, 0);
            if (word.length() < 6) {
                text(word + "s = source 0 (x" + word + ") lag 0; output " + word + "s;", 2, 0);
            }
        }
        text("from = source 0 (rank to) lag 0; output from;", 2, 0);
    }

    /** "2 a NUMBER of more than 18 digits" */
    private static void digitsOfANumber() {
        text("a = source 0 (k) lag 000000000000000009; output a;", 2, 0);
        text("a = source 0 (k) lag 0000000000000000009; output a;", -22, 2);
        text("a = source 0 (k) lag 999999999999999999; output a;", -22, 7);
        text("a = source 0 (k) lag 1000000000000000000; output a;", -22, 2);
        text("a = source 0 (k) lag 18446744073709551616; output a;", -22, 2);
        text("a = source 0 (k) lag 4294967296; output a;", -22, 7);
        text("a = source 4294967296 (k) lag 1; output a;", -12, 7);
        text("a = 0000000000000000000 0 (k) lag 0; output a;", -5, 2);
        text("0000000000000000000", -1, 2);
        text("000000000000000000", -1, 4);
        text("9".repeat(1500), -1, 2);
        text("a = source 0 (k) lag 0; b = filter a : 999999999999999999; output b;", 3, 0);
        text("a = source 0 (k) lag 0; b = filter a : 1999999999999999999; output b;", -40, 2);
        House x = Check.house("a = source 0 (k) lag 0; b = map a : n = 999999999999999999; output b;");
        x.give(0, 1, 0, 0, 0, 0);
        x.start(1, 1, 1);
        Check.finish(x);
        Check.same("a NUMBER of 18 digits", x.row(0, 0, 0), 999999999999999999L);
    }

    /** "3 the text ends too early (also before an output)"; its place: "at the end how many bytes there are" */
    private static void whereTheTextEnds() {
        String whole = "a = source 0 (k) lag 0; b = source 1 (l) lag 0; c = join a b by k l within - 1 2;"
            + "d = match c by k : (k ? 1 : -l) then 2 within 3; output d;";
        for (int n = 0; n < whole.length(); n++) {
            String text = whole.substring(0, n);
            char last = n == 0 ? ' ' : text.charAt(n - 1);
            char next = whole.charAt(n);
            boolean cutsToken = isLetter(last) && isLetter(next) || isDigit(last) && isDigit(next);
            if (!cutsToken) {
                text(text, -1 - n, 3);
                text(text + "  ", -3 - n, 3);
            }
        }
        text(whole, 5, 0);
        text(whole + " ", 5, 0);
    }

    /** A text ends where its bytes do, whatever a longer one before had there. */
    private static void nothingOfTheTextBefore() {
        String[] before = {"1".repeat(60), "a".repeat(60), " ".repeat(60), ";".repeat(60), "$".repeat(60)};
        String[] texts = {"a = source 1", "a = sou", "a = source 1 (k) lag 123456789012345678", "a = source 1 (k) lag 0; ", "a = source 1 (k) lag 0; output", "a = source 1 (k) lag 0; output a"};
        int[] faults = {3, 4, 7, 3, 3, 3};
        int[] places = {12, 4, 21, 24, 30, 32};
        for (String longer : before) {
            for (int i = 0; i < texts.length; i++) {
                House x = new House();
                Check.feed(x, longer);
                x.job();
                Check.feed(x, texts[i]);
                Check.same("job of " + texts[i] + " behind " + longer, x.job(), -1 - places[i]);
                Check.same("fault of " + texts[i] + " behind " + longer, x.fault(), faults[i]);
            }
            House x = new House();
            Check.feed(x, longer);
            x.job();
            Check.feed(x, "a=source 0(k)lag 1;output a;");
            Check.same("a good text behind " + longer, x.job(), 2);
        }
    }
}
