import java.math.BigInteger;
import java.nio.charset.StandardCharsets;
import java.util.Arrays;
import java.util.List;

/**
 * Each sentence of the document that names a boundary case has a test of its own here, under its words:
 * the last value that is still allowed, the first that is not, and after a refused call that nothing has changed.
 * No object is asked more than 512 times, but where that is the sentence.
 */
public final class TokenRowBoundaries {
    private static final int NONE = -1;
    private static final int FULL = 1000;
    private static final int SPACES = 0x20202020;
    private static final int[] FAR = {
        Integer.MIN_VALUE, Integer.MIN_VALUE + 1, -65536, -1001, -1000, -2,
        1002, 65536, 1 << 24, Integer.MAX_VALUE - 1, Integer.MAX_VALUE};

    private static final String KEYWORDS =
        "TRUE FALSE REM EQV NEQV NOT VALOF TABLE IF UNLESS TEST WHILE UNTIL FOR SWITCHON CASE DEFAULT BREAK LOOP "
        + "ENDCASE RETURN RESULTIS FINISH LET AND BE GLOBAL MANIFEST STATIC VEC DO THEN OR ELSE TO BY INTO REPEAT "
        + "REPEATWHILE REPEATUNTIL";
    private static final String SIGNS = "$( $) ( ) , ; := : ! @ + - * / = ~= < <= > >= << >> ~ & | ->";

    private static int wrong = 0;

    public static void main(String[] args) {
        names();
        numbersBelowTheLimit();
        numbersOfDigits();
        characters();
        characterPairs();
        stringsOfCs();
        stringsOfAtMost200();
        signsThatCouldBeLonger();
        lineEnds();
        semicolonsByList();
        semicolonsByLine();
        endAtTheLength();
        badAtTheFirstByte();
        badOfATokenThatIsNone();
        newObject();
        feedHighestFirst();
        feedOfAtMost1000();
        feedRefused();
        endOfSoManyBytes();
        endRefused();
        readEmptiesTheTape();
        readCountsTokens();
        kindOrNone();
        placeOfPutIn();
        lineOfPutIn();
        valueOrZero();
        levelOrNone();
        sizeOfTexts();
        textAtOrNone();
        calls512();
        System.out.println(wrong == 0 ? "all answers are as due" : wrong + " answers are not as due");
        if (wrong != 0) {
            System.exit(1);
        }
    }

    // ---- how a test asks

    private static void due(String what, Object got, Object want) {
        if (!want.equals(got)) {
            wrong++;
            System.out.println(what + ": answered " + got + ", due is " + want);
        }
    }

    private static boolean feedText(TokenRow x, String twenty) {
        byte[] bytes = twenty.getBytes(StandardCharsets.ISO_8859_1);
        int[] w = new int[5];
        for (int i = 0; i < 20; i++) {
            w[i / 4] |= (bytes[i] & 255) << 24 - i % 4 * 8;
        }
        return x.feed(w[0], w[1], w[2], w[3], w[4]);
    }

    private static void fill(TokenRow x, String text) {
        for (int from = 0; from < text.length(); from += 20) {
            String part = text.substring(from, Math.min(from + 20, text.length()));
            due("feed of [" + part + "]", feedText(x, part + "?".repeat(20 - part.length())), true);
        }
        due("end(" + text.length() + ")", x.end(text.length()), true);
    }

    private static TokenRow row(String text) {
        TokenRow x = new TokenRow();
        fill(x, text);
        x.read();
        return x;
    }

    private static String textOf(TokenRow x, int k) {
        StringBuilder b = new StringBuilder();
        int size = x.size(k);
        for (int i = 0; i < size; i++) {
            b.append((char) x.textAt(k, i));
        }
        return b.toString();
    }

    private static String shown(TokenRow x, int k) {
        int kind = x.kind(k);
        switch (kind) {
            case 0: return "name:" + textOf(x, k);
            case 1: return "number:" + x.value(k);
            case 2: return "string:" + textOf(x, k);
            case 3: return "sign:" + textOf(x, k);
            case 4: return "keyword:" + textOf(x, k);
            case 5: return "END" + x.place(k);
            case 6: return "BAD" + x.place(k);
            default: return "kind " + kind;
        }
    }

    /** The text's tokens are these and no more, as read, kind and the rest tell them. */
    private static void reads(String text, String... want) {
        TokenRow x = new TokenRow();
        fill(x, text);
        due("read of [" + text + "]", x.read(), want.length);
        for (int k = 0; k < want.length; k++) {
            due("token " + k + " of [" + text + "]", shown(x, k), want[k]);
        }
        noToken(x, want.length);
    }

    private static void noToken(TokenRow x, int k) {
        due("kind(" + k + ") of none", x.kind(k), NONE);
        due("place(" + k + ") of none", x.place(k), NONE);
        due("line(" + k + ") of none", x.line(k), NONE);
        due("value(" + k + ") of none", x.value(k), 0);
        due("level(" + k + ") of none", x.level(k), NONE);
        due("size(" + k + ") of none", x.size(k), NONE);
        due("textAt(" + k + ", 0) of none", x.textAt(k, 0), NONE);
    }

    private static void sameTokens(String what, TokenRow x, TokenRow y, int count) {
        for (int k = -1; k <= count; k++) {
            String token = what + ", token " + k;
            due(token + ", kind", x.kind(k), y.kind(k));
            due(token + ", place", x.place(k), y.place(k));
            due(token + ", line", x.line(k), y.line(k));
            due(token + ", value", x.value(k), y.value(k));
            due(token + ", level", x.level(k), y.level(k));
            due(token + ", text", textOf(x, k), textOf(y, k));
        }
    }

    private static boolean isLetter(int c) {
        return c >= 'a' && c <= 'z' || c >= 'A' && c <= 'Z';
    }

    private static boolean isDigit(int c) {
        return c >= '0' && c <= '9';
    }

    private static boolean isGap(int c) {
        return c == 9 || c == 10 || c == 13 || c == 32;
    }

    // ---- names: "a letter, then letters, digits, . and _ ; at most 40"

    private static void names() {
        String n39 = "aZ0._".repeat(7) + "name";
        for (int c = 0; c < 256; c++) {
            String one = String.valueOf((char) c);
            boolean follows = isLetter(c) || isDigit(c) || c == '.' || c == '_';
            due("a name begins with byte " + c, row(one).kind(0) == 0, isLetter(c));
            due("size of a and byte " + c, row("a" + one).size(0), follows ? 2 : 1);
            due("size of 39 and byte " + c, row(n39 + one).size(0), follows ? 40 : 39);
            TokenRow x = row(n39 + "x" + one);
            due("kind of 40 and byte " + c, x.kind(0), follows ? 6 : 0);
            due("size of 40 and byte " + c, x.size(0), follows ? 0 : 40);
        }
        for (int size = 1; size <= FULL; size++) {
            String name = "n".repeat(size);
            if (size <= 40) {
                reads(name, "name:" + name, "END" + size);
            } else {
                reads(name, "BAD0");
            }
        }
        String n40 = n39 + "_";
        reads(n40 + " " + n40, "name:" + n40, "name:" + n40, "END81");
        reads(n40 + " " + n40 + "1", "name:" + n40, "BAD41");
        reads(" ".repeat(960) + n40, "name:" + n40, "END1000");
        reads(" ".repeat(959) + n40 + "1", "BAD959");
        // A name that goes on where a keyword ends is a name, up to the same size.
        reads("REPEATUNTIL" + "X".repeat(29), "name:REPEATUNTIL" + "X".repeat(29), "END40");
        reads("REPEATUNTIL" + "X".repeat(30), "BAD0");
    }

    // ---- numbers: "digits; # and octal digits; #X and hexadecimal ones A to F, 0 to 9;
    //      below 2 to the power 32, so many bits"

    private static final String[] HEADS = {"", "#", "#X"};
    private static final int[] BASES = {10, 8, 16};

    private static void numbersBelowTheLimit() {
        BigInteger limit = BigInteger.ONE.shiftLeft(32);
        for (int way = 0; way < 3; way++) {
            for (int power = 0; power <= 200; power++) {
                for (int more = -2; more <= 2; more++) {
                    BigInteger number = BigInteger.ONE.shiftLeft(power).add(BigInteger.valueOf(more));
                    if (number.signum() >= 0) {
                        oneNumber(way, number, number.compareTo(limit) < 0);
                    }
                }
            }
            for (int tens = 1; tens <= 300; tens++) {
                BigInteger number = BigInteger.TEN.pow(tens);
                oneNumber(way, number, number.compareTo(limit) < 0);
            }
        }
        reads("2147483647 2147483648", "number:2147483647", "number:-2147483648", "END21");
        reads("4294967295", "number:-1", "END10");
        reads("4294967296", "BAD0");
        reads("#37777777777", "number:-1", "END12");
        reads("#40000000000", "BAD0");
        reads("#XFFFFFFFF", "number:-1", "END10");
        reads("#X100000000", "BAD0");
        reads("7 4294967295", "number:7", "number:-1", "END12");
        reads("7 4294967296", "number:7", "BAD2");
        // A tape full of digits: what is over the limit does not come back below it by a wrap-around.
        for (int way = 0; way < 3; way++) {
            int room = FULL - HEADS[way].length();
            reads(HEADS[way] + "7".repeat(room), "BAD0");
            reads(HEADS[way] + "1" + "0".repeat(room - 1), "BAD0");
            reads(HEADS[way] + "0".repeat(room), "number:0", "END1000");
            reads(HEADS[way] + "0".repeat(room - 1) + "7", "number:7", "END1000");
        }
    }

    private static void oneNumber(int way, BigInteger number, boolean fine) {
        String digits = number.toString(BASES[way]).toUpperCase();
        for (String zeros : List.of("", "0", "0".repeat(40))) {
            String text = HEADS[way] + zeros + digits;
            if (fine) {
                reads(text, "number:" + number.intValue(), "END" + text.length());
            } else {
                reads(text, "BAD0");
            }
        }
    }

    private static void numbersOfDigits() {
        for (int way = 0; way < 3; way++) {
            for (int c = 0; c < 256; c++) {
                int digit = isDigit(c) ? c - '0' : c >= 'A' && c <= 'F' ? c - 'A' + 10 : NONE;
                boolean fine = digit >= 0 && digit < BASES[way];
                String one = String.valueOf((char) c);
                if (fine) {
                    reads(HEADS[way] + one, "number:" + digit, "END" + (HEADS[way].length() + 1));
                    reads(HEADS[way] + "1" + one, "number:" + (BASES[way] + digit), "END" + (HEADS[way].length() + 2));
                    continue;
                }
                due("byte " + c + " is no number in base " + BASES[way], row(HEADS[way] + one).kind(0) == 1, false);
                due("a 1 ahead of byte " + c + " in base " + BASES[way], row(HEADS[way] + "1" + one).value(0), 1);
                if (way > 0) {
                    reads(HEADS[way] + one, "BAD0");
                }
            }
        }
        reads("#", "BAD0");
        reads("#X", "BAD0");
        reads("# 1", "BAD0");
        reads("#X 1", "BAD0");
        reads("#\n1", "BAD0");
        reads("#x1", "BAD0");
        reads("##1", "BAD0");
        reads("#7#7", "number:7", "number:7", "END4");
        // A digit that is none of the base is no digit of the number.
        reads("#78", "number:7", "number:8", "END3");
        reads("#XFG", "number:15", "name:G", "END4");
        reads("#XFf", "number:15", "name:f", "END4");
        reads("9A", "number:9", "name:A", "END2");
        reads(" ".repeat(999) + "9", "number:9", "END1000");
        reads(" ".repeat(998) + "#7", "number:7", "END1000");
        reads(" ".repeat(999) + "#", "BAD999");
        reads(" ".repeat(997) + "#XF", "number:15", "END1000");
        reads(" ".repeat(998) + "#X", "BAD998");
    }

    // ---- 'C': "C a byte 32 .. 126 but ' and * , or *N *S *T *' *" ** : 10 32 9 39 34 42"

    private static void characters() {
        for (int c = 0; c < 256; c++) {
            String text = "'" + (char) c + "'";
            if (c >= 32 && c <= 126 && c != 39 && c != 42) {
                reads(text, "number:" + c, "END3");
                reads(text + text, "number:" + c, "number:" + c, "END6");
            } else {
                reads(text, "BAD0");
            }
        }
        reads("' '", "number:32", "END3");
        reads("'~'", "number:126", "END3");
        reads("'\u001f'", "BAD0");
        reads("'\u007f'", "BAD0");
        reads("''", "BAD0");
        reads("'''", "BAD0");
        reads("'ab'", "BAD0");
        reads("1 'ab'", "number:1", "BAD2");
        reads("'a\"", "BAD0");
        reads("'a", "BAD0");
        reads("'a '", "BAD0");
        reads("'", "BAD0");
        reads(" ".repeat(997) + "'a'", "number:97", "END1000");
        reads(" ".repeat(998) + "'a", "BAD998");
        reads(" ".repeat(999) + "'", "BAD999");
    }

    private static void characterPairs() {
        for (int c = 0; c < 256; c++) {
            int which = "NST'\"*".indexOf(c);
            String text = "'*" + (char) c + "'";
            if (which >= 0) {
                reads(text, "number:" + new int[] {10, 32, 9, 39, 34, 42}[which], "END4");
            } else {
                reads(text, "BAD0");
            }
        }
        reads("'*'", "BAD0");
        reads("'*", "BAD0");
        reads("'*N", "BAD0");
        reads("'*NN'", "BAD0");
        reads("'***'", "BAD0");
        reads("'*'''*''", "number:39", "number:39", "END8");
        reads(" ".repeat(996) + "'*T'", "number:9", "END1000");
        reads(" ".repeat(997) + "'*T", "BAD997");
        reads(" ".repeat(998) + "'*", "BAD998");
    }

    // ---- strings: "of C's, but " for ' ; at most 200"

    private static void stringsOfCs() {
        for (int c = 0; c < 256; c++) {
            String one = String.valueOf((char) c);
            if (c >= 32 && c <= 126 && c != 34 && c != 42) {
                reads("\"" + one + "\"", "string:" + one, "END3");
                reads("\"a" + one + "b\"", "string:a" + one + "b", "END5");
            } else if (c != 34) {
                reads("\"" + one + "\"", "BAD0");
                reads("\"a" + one + "b\"", "BAD0");
            }
            int which = "NST'\"*".indexOf(c);
            if (which >= 0) {
                reads("\"*" + one + "\"", "string:" + "\n \t'\"*".charAt(which), "END4");
            } else {
                reads("\"*" + one + "\"", "BAD0");
            }
        }
        reads("\"\"", "string:", "END2");
        reads("\"\"\"", "string:", "BAD2");
        reads("\"", "BAD0");
        reads("\"a", "BAD0");
        reads("\"*", "BAD0");
        reads("\"*\"", "BAD0");
        reads("\"'\"", "string:'", "END3");
        reads("a \"b\nc\"", "name:a", "BAD2");
        reads(" ".repeat(998) + "\"\"", "string:", "END1000");
        reads(" ".repeat(999) + "\"", "BAD999");
    }

    private static void stringsOfAtMost200() {
        for (int size = 0; size <= 249; size++) {
            stringOf("s".repeat(size), "s".repeat(size));
            // Each pair is one C: it is C's that are counted, not the bytes that write them.
            stringOf("*N".repeat(size), "\n".repeat(size));
            stringOf("*\"x".repeat(size / 2) + "y".repeat(size % 2), "\"x".repeat(size / 2) + "y".repeat(size % 2));
        }
        stringOf("s".repeat(199) + "**", "s".repeat(199) + "*");
        stringOf("s".repeat(200) + "**", "s".repeat(200) + "*");
        stringOf("s".repeat(998), "s".repeat(998));
        stringOf("*S".repeat(499), " ".repeat(499));
        reads("\"" + "s".repeat(200), "BAD0");
        reads("\"" + "s".repeat(200) + "\n\"", "BAD0");
        reads("\"" + "s".repeat(200) + "*\"", "BAD0");
        String full = "\"" + "s".repeat(200) + "\"";
        TokenRow x = row(full.repeat(4) + "\"" + "z".repeat(190) + "\"");
        for (int k = 0; k < 5; k++) {
            due("size of string " + k, x.size(k), k < 4 ? 200 : 190);
            due("last byte of string " + k, x.textAt(k, k < 4 ? 199 : 189), k < 4 ? 115 : 122);
        }
        due("place behind five strings", x.place(5), FULL);
    }

    private static void stringOf(String written, String meant) {
        String text = "\"" + written + "\"";
        if (meant.length() <= 200) {
            reads(text, "string:" + meant, "END" + text.length());
        } else {
            reads(text, "BAD0");
        }
    }

    // ---- signs: "A sign that could be longer is."

    private static void signsThatCouldBeLonger() {
        List<String> longer = List.of("$(", "$)", ":=", "~=", "<=", ">=", "<<", ">>", "->");
        String bytes = "$(),;:!@+-*/=~<>&|";
        for (char c : bytes.toCharArray()) {
            if (c == '$') {
                reads("$", "BAD0");
            } else {
                reads("" + c, "sign:" + c, "END1");
            }
            for (char d : bytes.toCharArray()) {
                String pair = "" + c + d;
                if (longer.contains(pair)) {
                    reads(pair, "sign:" + pair, "END2");
                } else if (pair.equals("//")) {
                    reads(pair, "END2");
                } else {
                    twoSigns(pair, c, d, 1);
                }
                twoSigns(c + " " + d, c, d, 2);
                twoSigns(c + "\n" + d, c, d, 2);
                secondByteCutOff(pair);
            }
        }
        reads("<<=", "sign:<<", "sign:=", "END3");
        reads("<=<", "sign:<=", "sign:<", "END3");
        reads("<<<", "sign:<<", "sign:<", "END3");
        reads("<<<<", "sign:<<", "sign:<<", "END4");
        reads(">>=", "sign:>>", "sign:=", "END3");
        reads("->>", "sign:->", "sign:>", "END3");
        reads("-->", "sign:-", "sign:->", "END3");
        reads("~~=", "sign:~", "sign:~=", "END3");
        reads("::=", "sign::", "sign::=", "END3");
        reads(":==", "sign::=", "sign:=", "END3");
        reads("($(", "sign:(", "sign:$(", "END3");
        reads("/*//", "sign:/", "sign:*", "END4");
        reads(" ".repeat(999) + ":", "sign::", "END1000");
        reads(" ".repeat(998) + ":=", "sign::=", "END1000");
    }

    private static void twoSigns(String text, char c, char d, int place) {
        boolean put = text.indexOf('\n') >= 0 && c == ')' && "(!@".indexOf(d) >= 0;
        if (c == '$') {
            reads(text, "BAD0");
        } else if (d == '$') {
            reads(text, "sign:" + c, "BAD" + place);
        } else if (put) {
            reads(text, "sign:" + c, "sign:;", "sign:" + d, "END" + text.length());
        } else {
            reads(text, "sign:" + c, "sign:" + d, "END" + text.length());
        }
    }

    /** The byte that would make the sign longer is on the tape, but it does not count. */
    private static void secondByteCutOff(String pair) {
        for (int place : new int[] {0, 1, 7, 998}) {
            TokenRow x = new TokenRow();
            fill(x, " ".repeat(place) + pair);
            due("end(" + (place + 1) + ")", x.end(place + 1), true);
            due("read of the first byte of " + pair, x.read(), pair.charAt(0) == '$' ? 1 : 2);
            due("the first byte of " + pair, shown(x, 0), pair.charAt(0) == '$' ? "BAD" + place : "sign:" + pair.charAt(0));
        }
    }

    // ---- lines: "A byte 10 ends a line."

    private static void lineEnds() {
        for (int c = 0; c < 256; c++) {
            TokenRow x = row("+" + (char) c + "+");
            due("line behind byte " + c, x.line(1), c == 10 ? 1 : 0);
            x = row("+//" + (char) c + "\n+");
            due("line behind a remark with byte " + c, x.line(1), c == 10 ? 2 : 1);
            // The rest of the line is a remark, whatever it holds; only byte 10 ends it.
            x = row("//" + (char) c + "x");
            due("a token behind // and byte " + c, x.kind(0), c == 10 ? 0 : 5);
        }
        for (int count = 0; count <= FULL; count++) {
            TokenRow x = row("\n".repeat(count));
            due("line of END behind " + count + " bytes 10", x.line(0), count);
        }
        for (int count = 0; count < FULL; count++) {
            TokenRow x = row("\n".repeat(count) + "x");
            due("line of a name behind " + count + " bytes 10", x.line(0), count);
            due("line of END behind it", x.line(1), count);
            x = row("\n".repeat(count) + "?");
            due("line of BAD behind " + count + " bytes 10", x.line(0), count);
        }
        due("line of END behind a remark without an end", row("// a").line(0), 0);
        due("line of END behind a remark with an end", row("// a\n").line(0), 1);
    }

    // ---- lines: "Between two tokens of which the first ends in a line ahead of the second's line
    //      a ; is understood if the first is ... and the second ..."

    private static final String OPERANDS = "a REPEATS 1 #7 #XF 'c' '*N' \"s\" \"\" \"+\" \"IF\"";

    private static void semicolonsByList() {
        List<String> first = Arrays.asList(
            (OPERANDS + " $) ) TRUE FALSE BREAK LOOP ENDCASE RETURN FINISH").split(" "));
        List<String> second = Arrays.asList(
            (OPERANDS + " ( ! @ $( TRUE FALSE VALOF TABLE IF UNLESS TEST WHILE UNTIL FOR SWITCHON CASE DEFAULT BREAK "
            + "LOOP ENDCASE RETURN RESULTIS FINISH LET GLOBAL MANIFEST STATIC").split(" "));
        String[] all = (OPERANDS + " " + SIGNS + " " + KEYWORDS).split(" ");
        for (String one : all) {
            for (String two : all) {
                boolean put = first.contains(one) && second.contains(two);
                String text = one + "\n" + two;
                TokenRow x = new TokenRow();
                fill(x, text);
                due("read of [" + text + "]", x.read(), put ? 4 : 3);
                due("what stands behind the first of [" + text + "]", shown(x, 1).equals("sign:;"), put || two.equals(";"));
                due("kind of the first of [" + text + "]", x.kind(0), kindOf(one));
                due("kind of the second of [" + text + "]", x.kind(put ? 2 : 1), kindOf(two));
                due("END of [" + text + "]", shown(x, put ? 3 : 2), "END" + text.length());
            }
            // Neither END nor BAD is a second token with which a ; is understood.
            due("read of " + one + " and an empty line", tokensOf(one + "\n"), 2);
            due("read of " + one + " and a BAD", tokensOf(one + "\n?"), 2);
            due("read of " + one + " and a number that is none", tokensOf(one + "\n4294967296"), 2);
            due("read of " + one + " and a name that is none", tokensOf(one + "\n" + "n".repeat(41)), 2);
            due("read of " + one + " and a string that is none", tokensOf(one + "\n\"s"), 2);
            due("read of " + one + " and a 'C' that is none", tokensOf(one + "\n'c"), 2);
            due("read of an empty line and " + one, tokensOf("\n" + one), 2);
        }
    }

    private static int kindOf(String one) {
        if (Arrays.asList(KEYWORDS.split(" ")).contains(one)) {
            return 4;
        }
        int first = one.charAt(0);
        return isLetter(first) ? 0 : isDigit(first) || first == '#' || first == '\'' ? 1 : first == '"' ? 2 : 3;
    }

    private static int tokensOf(String text) {
        TokenRow x = new TokenRow();
        fill(x, text);
        return x.read();
    }

    private static void semicolonsByLine() {
        reads("a b", "name:a", "name:b", "END3");
        reads("a\t\r b", "name:a", "name:b", "END5");
        reads("a\u000bb", "name:a", "BAD1");
        reads("a\nb", "name:a", "sign:;", "name:b", "END3");
        reads("a\r\nb", "name:a", "sign:;", "name:b", "END4");
        reads("a\n\n\nb", "name:a", "sign:;", "name:b", "END5");
        reads("a//\nb", "name:a", "sign:;", "name:b", "END5");
        reads("a\n//\n//\nb", "name:a", "sign:;", "name:b", "END9");
        reads("a//b", "name:a", "END4");
        reads("a;\nb", "name:a", "sign:;", "name:b", "END4");
        reads("a\n;b", "name:a", "sign:;", "name:b", "END4");
        reads("a\n;\nb", "name:a", "sign:;", "name:b", "END5");
        // A token is not taken for one of the list that its text is the end of.
        reads("D CASE\nb", "name:D", "keyword:CASE", "name:b", "END8");
        reads("a\nb c", "name:a", "sign:;", "name:b", "name:c", "END5");
        reads("a b\nc", "name:a", "name:b", "sign:;", "name:c", "END5");
        reads("\n\na b", "name:a", "name:b", "END5");
        reads("a +\nb", "name:a", "sign:+", "name:b", "END5");
        reads("a\n+ b", "name:a", "sign:+", "name:b", "END5");
        reads("'*N' 'c'", "number:10", "number:99", "END8");
        reads("\"*N\" 'c'", "string:\n", "number:99", "END8");
        reads("a" + "\n".repeat(998) + "b", "name:a", "sign:;", "name:b", "END1000");
    }

    // ---- the end of a text: "A text's tokens end with an END, at its length"

    private static void endAtTheLength() {
        for (int length = 0; length <= FULL; length++) {
            reads(" ".repeat(length), "END" + length);
            if (length > 0) {
                reads("+" + " ".repeat(length - 1), "sign:+", "END" + length);
                reads(" ".repeat(length - 1) + "+", "sign:+", "END" + length);
            }
            if (length > 1) {
                reads("//" + "?".repeat(length - 2), "END" + length);
            }
        }
        // The bytes behind the length are on the tape, but they are no part of the text.
        for (int length = 0; length <= 20; length++) {
            TokenRow x = new TokenRow();
            feedText(x, "+++++++++++++++++++?");
            x.end(length);
            due("read of " + length + " bytes", x.read(), length == 20 ? 20 : length + 1);
            due("the last of " + length + " bytes", shown(x, length == 20 ? 19 : length), length == 20 ? "BAD19" : "END" + length);
        }
    }

    // ---- "or, at the first byte where no token can begin ..., with a BAD, there."

    private static void badAtTheFirstByte() {
        for (int c = 0; c < 256; c++) {
            boolean sign = c < 128 && "(),;:!@+-*/=~<>&|".indexOf(c) >= 0;
            String want = isGap(c) ? "END3" : isLetter(c) || isDigit(c) || sign ? "a token" : "BAD1";
            String got = shown(row(" " + (char) c + " "), 0);
            due("what byte " + c + " begins", got.startsWith("BAD") || got.startsWith("END") ? got : "a token", want);
            if (want.equals("BAD1")) {
                reads((char) c + " a", "BAD0");
                reads("+ " + (char) c + " a\n?\nb", "sign:+", "BAD2");
                reads("a\n" + (char) c, "name:a", "BAD2");
            }
        }
        for (int place = 0; place < FULL; place++) {
            reads(" ".repeat(place) + "?" + "a".repeat(FULL - 1 - place), "BAD" + place);
        }
    }

    // ---- "(or that begins one that is none)"

    private static void badOfATokenThatIsNone() {
        for (String none : List.of("n".repeat(41), "4294967296", "#40000000000", "#X100000000", "#", "#X", "#8", "#XG",
                "''", "'ab'", "'*n'", "'*", "'", "\"", "\"a\nb\"", "\"*n\"", "\"" + "s".repeat(201) + "\"", "$", "$ (")) {
            reads(none, "BAD0");
            reads(" " + none, "BAD1");
            reads("+" + none, "sign:+", "BAD1");
            reads("1 " + none + " b", "number:1", "BAD2");
            TokenRow x = row("12 \"st\"\n\n" + none);
            due("line of [" + none + "]", x.line(2), 2);
            due("value of [" + none + "]", x.value(2), 0);
            due("level of [" + none + "]", x.level(2), NONE);
            due("size of [" + none + "]", x.size(2), 0);
            due("text of [" + none + "]", x.textAt(2, 0), NONE);
            noToken(x, 3);
        }
    }

    // ---- promise 1: "No tokens; the tape is empty."

    private static void newObject() {
        TokenRow x = new TokenRow();
        for (int k = -1; k <= 1; k++) {
            noToken(x, k);
        }
        for (int k : FAR) {
            noToken(x, k);
        }
        x = new TokenRow();
        due("end(1) of a new object", x.end(1), false);
        due("end(0) of a new object", x.end(0), true);
        noToken(x, 0);
        x = new TokenRow();
        due("read of a new object", x.read(), 1);
        due("its END", shown(x, 0), "END0");
        due("its END's line", x.line(0), 0);
        noToken(x, 1);
        x = new TokenRow();
        for (int i = 0; i < 50; i++) {
            due("feed " + i + " of a new object", x.feed(SPACES, SPACES, SPACES, SPACES, SPACES), true);
        }
        noToken(x, 0);
        // What one object was told, another one does not know.
        TokenRow other = new TokenRow();
        row("a b c");
        noToken(other, 0);
        due("end(1) of another", other.end(1), false);
    }

    // ---- promise 2: "Appends twenty bytes to the tape, of each number the highest first"

    private static void feedHighestFirst() {
        TokenRow x = new TokenRow();
        x.feed(0x61626364, 0x65666768, 0x696A6B6C, 0x6D6E6F70, 0x71727374);
        due("read", x.read(), 2);
        due("twenty bytes", shown(x, 0), "name:abcdefghijklmnopqrst");
        due("and no more", shown(x, 1), "END20");
        x = new TokenRow();
        x.feed(0x61626364, 0x65666768, 0x696A6B6C, 0x6D6E6F70, 0x71727374);
        x.feed(0x41424344, 0x45464748, 0x494A4B4C, 0x4D4E4F50, 0x51525354);
        x.read();
        due("behind those that are there", shown(x, 0), "name:abcdefghijklmnopqrstABCDEFGHIJKLMNOPQRST");
        due("forty bytes", shown(x, 1), "END40");
        // Each byte stands alone: neither a high one nor a sign bit reaches into another.
        for (int place = 0; place < 20; place++) {
            for (int c = 0; c < 256; c++) {
                int[] w = {SPACES, SPACES, SPACES, SPACES, SPACES};
                int shift = 24 - place % 4 * 8;
                w[place / 4] = SPACES & ~(255 << shift) | c << shift;
                x = new TokenRow();
                x.feed(w[0], w[1], w[2], w[3], w[4]);
                x.read();
                due("place of byte " + c + " at " + place, x.place(0), isGap(c) ? 20 : place);
                if (isLetter(c)) {
                    due("byte " + c + " at " + place, x.textAt(0, 0), c);
                }
            }
        }
        x = new TokenRow();
        x.feed(0x61FFFFFF, -1, -1, -1, -1);
        x.read();
        due("a byte ahead of high ones", shown(x, 0), "name:a");
        due("the first high one", shown(x, 1), "BAD1");
        x = new TokenRow();
        x.feed(Integer.MIN_VALUE, 0, 0, 0, 0);
        x.read();
        due("the lowest number", shown(x, 0), "BAD0");
    }

    // ---- promise 2: "false, changing nothing, when it would have more than 1000."

    private static void feedOfAtMost1000() {
        TokenRow x = new TokenRow();
        for (int i = 0; i < 50; i++) {
            due("feed to " + (i * 20 + 20), x.feed(0x2B202020, SPACES, SPACES, SPACES, SPACES), true);
            due("end(" + (i * 20 + 21) + ")", x.end(i * 20 + 21), false);
        }
        due("feed to 1020", x.feed(0x2D202020, SPACES, SPACES, SPACES, SPACES), false);
        due("read of 1000", x.read(), 51);
        due("the last feed", x.place(49), 980);
        due("the end of 1000", shown(x, 50), "END1000");
        for (int size = 960; size <= FULL; size++) {
            x = new TokenRow();
            fill(x, " ".repeat(size));
            due("feed to " + (size + 20), x.feed(0x2B202020, SPACES, SPACES, SPACES, SPACES), size <= 980);
            due("read", x.read(), size <= 980 ? 2 : 1);
            due("the end of what was fed to " + size, shown(x, size <= 980 ? 1 : 0), "END" + (size <= 980 ? size + 20 : size));
        }
    }

    private static void feedRefused() {
        String told = "one := 'c'\n\"two\" REM #X1F";
        for (int size = 981; size <= FULL; size++) {
            String tape = "a\nb 17 \"s*N\" <= EQV (" + " ".repeat(size - 25) + "(12)";
            TokenRow x = new TokenRow();
            TokenRow y = new TokenRow();
            for (TokenRow one : new TokenRow[] {x, y}) {
                fill(one, told);
                due("read", one.read(), 8);
                fill(one, tape);
            }
            due("feed behind " + size, x.feed(0x78787878, 0x78787878, 0x78787878, 0x78787878, 0x78787878), false);
            due("feed behind " + size, x.feed(-1, 0, 1, Integer.MIN_VALUE, Integer.MAX_VALUE), false);
            sameTokens("a refused feed", x, y, 8);
            due("the tape has no more", x.end(size + 1), false);
            due("the tape has as many", x.end(size), true);
            due("read after a refused feed", x.read(), y.read());
            due("the end of the tape", shown(x, 11), "END" + size);
            sameTokens("read after a refused feed", x, y, 12);
        }
    }

    // ---- promise 3: "Of the tape only the first n bytes count"

    private static void endOfSoManyBytes() {
        for (int size = 0; size <= FULL; size += 20) {
            TokenRow x = new TokenRow();
            for (int i = 0; i < size / 20; i++) {
                x.feed(0x2B2B2B2B, 0x2B2B2B2B, 0x2B2B2B2B, 0x2B2B2B2B, 0x2B2B2B2B);
            }
            due("end(-1) of " + size, x.end(-1), false);
            due("end(" + (size + 1) + ") of " + size, x.end(size + 1), false);
            for (int n : FAR) {
                due("end(" + n + ") of " + size, x.end(n), false);
            }
            due("end(" + size + ") of " + size, x.end(size), true);
            due("read of " + size, x.read(), size + 1);
            due("its end", shown(x, size), "END" + size);
        }
        for (int n = 0; n <= FULL; n++) {
            TokenRow x = new TokenRow();
            for (int i = 0; i < 50; i++) {
                x.feed(0x2B2B2B2B, 0x2B2B2B2B, 0x2B2B2B2B, 0x2B2B2B2B, 0x2B2B2B2B);
            }
            due("end(" + n + ") of 1000", x.end(n), true);
            due("end(" + (n + 1) + ") then", x.end(n + 1), false);
            due("end(" + n + ") again", x.end(n), true);
            due("read of " + n, x.read(), n + 1);
            due("its end", shown(x, n), "END" + n);
        }
        // What is fed later follows the bytes that count.
        TokenRow x = new TokenRow();
        feedText(x, "abcdefghijklmnopqrst");
        due("end(3)", x.end(3), true);
        feedText(x, "ABCDEFGHIJKLMNOPQRST");
        due("end(24)", x.end(24), false);
        due("end(23)", x.end(23), true);
        due("read", x.read(), 2);
        due("three and twenty", shown(x, 0), "name:abcABCDEFGHIJKLMNOPQRST");
        due("and no more", shown(x, 1), "END23");
        // With none left the tape is as a new object's.
        x = new TokenRow();
        fill(x, "?".repeat(FULL));
        due("end(0)", x.end(0), true);
        due("end(1) then", x.end(1), false);
        for (int i = 0; i < 50; i++) {
            due("feed " + i + " after end(0)", x.feed(SPACES, SPACES, SPACES, SPACES, SPACES), true);
        }
        due("read after end(0)", x.read(), 1);
        due("the end of it", shown(x, 0), "END1000");
    }

    // ---- promise 3: "false, changing nothing, when it has not so many, or n is below 0."

    private static void endRefused() {
        String told = "one := 'c'\n\"two\" REM #X1F";
        for (String tape : List.of("", "a", "a\nb 17 \"s*N\" <= ?", "f(x)\n".repeat(3), "x".repeat(40), " ".repeat(FULL))) {
            TokenRow x = new TokenRow();
            TokenRow y = new TokenRow();
            for (TokenRow one : new TokenRow[] {x, y}) {
                fill(one, told);
                due("read", one.read(), 8);
                fill(one, tape);
            }
            int size = tape.length();
            due("end(" + (size + 1) + ") of " + size, x.end(size + 1), false);
            due("end(-1) of " + size, x.end(-1), false);
            for (int n : FAR) {
                due("end(" + n + ") of " + size, x.end(n), false);
            }
            sameTokens("a refused end", x, y, 8);
            boolean room = size <= 980;
            due("feed after a refused end", feedText(x, "abcdefghijklmnopqrst"), room);
            due("feed without one", feedText(y, "abcdefghijklmnopqrst"), room);
            int count = y.read();
            due("read after a refused end", x.read(), count);
            sameTokens("read after a refused end", x, y, count);
        }
        // A refused end does not take back one that was granted.
        TokenRow x = new TokenRow();
        feedText(x, "++++++++++++++++++++");
        due("end(5)", x.end(5), true);
        due("end(6)", x.end(6), false);
        due("end(20)", x.end(20), false);
        due("end(-1)", x.end(-1), false);
        due("read of 5", x.read(), 6);
    }

    // ---- promise 4: "The tape (empty then) is read"

    private static void readEmptiesTheTape() {
        for (String text : List.of("", "a", "a b\n7", "?", "'", "a ? b", "+".repeat(450), "x".repeat(FULL))) {
            TokenRow x = row(text);
            due("end(1) behind a read", x.end(1), false);
            due("end(0) behind a read", x.end(0), true);
            due("a second read", x.read(), 1);
            due("its END", shown(x, 0), "END0");
            due("its END's line", x.line(0), 0);
            due("its END's size", x.size(0), 0);
            noToken(x, 1);
            for (int i = 0; i < 50; i++) {
                due("feed " + i + " behind a read", x.feed(SPACES, SPACES, SPACES, SPACES, SPACES), true);
            }
            due("feed 51 behind a read", x.feed(SPACES, SPACES, SPACES, SPACES, SPACES), false);
        }
        // A text begins anew: no byte, line, token or text of the one ahead of it is left.
        TokenRow x = row("a\n\nb\n\"long text\"\n?");
        fill(x, "c\nd 'e'");
        due("read", x.read(), 5);
        sameTokens("a second text", x, row("c\nd 'e'"), 5);
        x = row("\"left open");
        fill(x, "7 \"s\"");
        due("read", x.read(), 3);
        sameTokens("behind a text with a BAD", x, row("7 \"s\""), 3);
        // The tokens stay as they are until the next read.
        x = row("a\nb");
        feedText(x, "????????????????????");
        x.end(7);
        sameTokens("fed, but not read", x, row("a\nb"), 4);
    }

    // ---- promise 4: "how many tokens there are (the last one an END or BAD)."

    private static void readCountsTokens() {
        for (int size = 0; size <= FULL; size++) {
            readsSoMany("+".repeat(size), size + 1, 5);
        }
        for (int place = 0; place < FULL; place++) {
            readsSoMany("+".repeat(place) + "?" + "+".repeat(FULL - 1 - place), place + 1, 6);
        }
        readsSoMany("", 1, 5);
        readsSoMany("?", 1, 6);
        readsSoMany("a\n".repeat(500), 1000, 5);
        readsSoMany("a\n".repeat(499) + "a+", 1001, 5);
        readsSoMany("a\n".repeat(499) + "a?", 1000, 6);
        readsSoMany(")" + "\n()".repeat(333), 1001, 5);
        readsSoMany("+" + ")\n(".repeat(333), 1001, 5);
        readsSoMany(")\n(".repeat(333) + "?", 1000, 6);
        readsSoMany("'*''".repeat(250), 251, 5);
    }

    private static void readsSoMany(String text, int count, int lastKind) {
        TokenRow x = new TokenRow();
        fill(x, text);
        due("read of " + text.length() + " bytes", x.read(), count);
        due("the last of " + count + " tokens", x.kind(count - 1), lastKind);
        if (count > 1) {
            due("the last but one of " + count + " tokens", x.kind(count - 2) < 5, true);
        }
        noToken(x, count);
    }

    // ---- promise 5: "NONE when there is none."

    private static final String MIXED = "ab\n12 'c' \"de\" := REM (#7\nEQV";
    private static final int[] KINDS = {0, 3, 1, 1, 2, 3, 4, 3, 1, 4, 5};

    private static void kindOrNone() {
        TokenRow x = row(MIXED);
        for (int k = 0; k < KINDS.length; k++) {
            due("kind(" + k + ")", x.kind(k), KINDS[k]);
        }
        due("kind behind END", x.kind(KINDS.length), NONE);
        due("kind(-1)", x.kind(-1), NONE);
        for (int k : FAR) {
            due("kind(" + k + ")", x.kind(k), NONE);
        }
        due("kind(1000)", x.kind(1000), NONE);
        due("kind(1001)", x.kind(1001), NONE);
        x = row("a ?");
        due("kind of BAD", x.kind(1), 6);
        due("kind behind BAD", x.kind(2), NONE);
        // As many tokens as a tape can hold.
        x = row("+".repeat(FULL));
        due("kind(999)", x.kind(999), 3);
        due("kind(1000)", x.kind(1000), 5);
        due("kind(1001)", x.kind(1001), NONE);
        // A shorter text's row has no tokens of the longer one ahead of it.
        fill(x, "a");
        x.read();
        due("kind(1) of a shorter text", x.kind(1), 5);
        for (int k = 2; k <= 1001; k += 111) {
            noToken(x, k);
        }
    }

    // ---- promise 6: "Its place (of a ; that was put in that of the token behind it); NONE."

    private static void placeOfPutIn() {
        TokenRow x = row(MIXED);
        int[] want = {0, 3, 3, 6, 10, 15, 18, 22, 23, 26, 29, NONE};
        for (int k = 0; k < want.length; k++) {
            due("place(" + k + ")", x.place(k), want[k]);
        }
        due("place(-1)", x.place(-1), NONE);
        due("place(1000)", x.place(1000), NONE);
        due("place(1001)", x.place(1001), NONE);
        for (int k : FAR) {
            due("place(" + k + ")", x.place(k), NONE);
        }
        for (int gap = 1; gap <= 998; gap++) {
            x = row("a\n" + " ".repeat(gap - 1) + "b");
            due("place of a ; put in", x.place(1), gap + 1);
            due("place behind a ; put in", x.place(2), gap + 1);
        }
        x = row("a ;\nb");
        due("place of a ; that was there", x.place(1), 2);
        x = row("a\n ; b");
        due("place of a ; that was there", x.place(1), 3);
        x = row("+".repeat(FULL));
        due("place(999)", x.place(999), 999);
        due("place(1000)", x.place(1000), FULL);
        due("place(1001)", x.place(1001), NONE);
    }

    // ---- promise 7: "Its line, from 0 (of a ; that was put in that of the token behind it); NONE."

    private static void lineOfPutIn() {
        TokenRow x = row(MIXED);
        int[] want = {0, 1, 1, 1, 1, 1, 1, 1, 1, 2, 2, NONE};
        for (int k = 0; k < want.length; k++) {
            due("line(" + k + ")", x.line(k), want[k]);
        }
        due("line(-1)", x.line(-1), NONE);
        due("line(1000)", x.line(1000), NONE);
        due("line(1001)", x.line(1001), NONE);
        for (int k : FAR) {
            due("line(" + k + ")", x.line(k), NONE);
        }
        for (int count = 1; count <= 998; count++) {
            x = row("a" + "\n".repeat(count) + "b");
            due("line ahead of a ; put in", x.line(0), 0);
            due("line of a ; put in", x.line(1), count);
            due("line behind a ; put in", x.line(2), count);
        }
        x = row("a ;\nb");
        due("line of a ; that was there", x.line(1), 0);
        x = row("a\n;\nb");
        due("line of a ; that was there", x.line(1), 1);
    }

    // ---- promise 8: "A number's 32 bits; 0 for others, and none."

    private static void valueOrZero() {
        TokenRow x = row("4294967295 2147483648 2147483647 0 #37777777777 #X80000000 '~' '*T'");
        int[] numbers = {-1, Integer.MIN_VALUE, Integer.MAX_VALUE, 0, -1, Integer.MIN_VALUE, 126, 9, 0, 0};
        for (int k = 0; k < numbers.length; k++) {
            due("value(" + k + ")", x.value(k), numbers[k]);
        }
        due("value(-1)", x.value(-1), 0);
        due("value(1000)", x.value(1000), 0);
        due("value(1001)", x.value(1001), 0);
        for (int k : FAR) {
            due("value(" + k + ")", x.value(k), 0);
        }
        // Each of the others behind a number, so that its value could have been left.
        x = row("9 ab 9 \"7\" 9 + 9 IF 9\n9 ?");
        int[] others = {9, 0, 9, 0, 9, 0, 9, 0, 9, 0, 9, 0, 0};
        for (int k = 0; k < others.length; k++) {
            due("value(" + k + ")", x.value(k), others[k]);
        }
        due("value of END behind a number", row("9").value(1), 0);
        due("value of a number that is none", row("9 4294967297").value(1), 0);
        due("value of a 'C' that is none", row("9 'a").value(1), 0);
        fill(x, "a b c");
        x.read();
        for (int k = 0; k < 13; k++) {
            due("value(" + k + ") of a text without numbers", x.value(k), 0);
        }
    }

    // ---- promise 9: "The level of a sign or keyword; NONE for others."

    private static void levelOrNone() {
        List<String> levels = List.of("EQV NEQV", "|", "&", "<< >>", "= ~= < <= > >=", "+ -", "* / REM");
        for (String one : (SIGNS + " " + KEYWORDS).split(" ")) {
            int want = NONE;
            for (int level = 0; level < levels.size(); level++) {
                want = Arrays.asList(levels.get(level).split(" ")).contains(one) ? level : want;
            }
            due("level of " + one, row(one).level(0), want);
            due("level of a string " + one, row("\"" + one + "\"").level(0), NONE);
        }
        for (String one : KEYWORDS.split(" ")) {
            due("level of the name " + one + "S", row(one + "S").level(0), NONE);
            due("level of the name " + one.toLowerCase(), row(one.toLowerCase()).level(0), NONE);
        }
        TokenRow x = row("a 5 #6 '+' \"*\" rem\nb 0 ?");
        for (int k = -1; k <= 12; k++) {
            due("level(" + k + ")", x.level(k), NONE);
        }
        due("level of END", row("+").level(1), NONE);
        due("level of BAD", row("+?").level(1), NONE);
        due("level of a ; put in", row("a\nb").level(1), NONE);
        x = row("+".repeat(FULL));
        due("level(999)", x.level(999), 5);
        due("level(1000)", x.level(1000), NONE);
        due("level(1001)", x.level(1001), NONE);
        for (int k : FAR) {
            due("level(" + k + ")", x.level(k), NONE);
        }
        fill(x, "a");
        x.read();
        due("level of what was a + in the text ahead", x.level(5), NONE);
    }

    // ---- promise 10: "How many bytes its text has (of a string what it means; of numbers, END, BAD 0); NONE."

    private static void sizeOfTexts() {
        TokenRow x = row("a.b\n12 'c' '*N' \"d*N**\" \"\" := ! REPEATWHILE #XFFFFFFFF");
        int[] want = {3, 1, 0, 0, 0, 3, 0, 2, 1, 11, 0, 0, NONE};
        for (int k = 0; k < want.length; k++) {
            due("size(" + k + ")", x.size(k), want[k]);
        }
        due("size(-1)", x.size(-1), NONE);
        due("size(1000)", x.size(1000), NONE);
        due("size(1001)", x.size(1001), NONE);
        for (int k : FAR) {
            due("size(" + k + ")", x.size(k), NONE);
        }
        due("size of END alone", row("").size(0), 0);
        due("size of BAD", row("?").size(0), 0);
        due("size of a BAD string", row("\"abc").size(0), 0);
        due("size of a BAD name", row("n".repeat(41)).size(0), 0);
        due("size of a name of 40", row("n".repeat(40)).size(0), 40);
        due("size of a string of 200", row("\"" + "*S".repeat(200) + "\"").size(0), 200);
        for (String one : (SIGNS + " " + KEYWORDS).split(" ")) {
            due("size of " + one, row(one).size(0), one.length());
        }
    }

    // ---- promise 11: "Byte i of that; NONE."

    private static void textAtOrNone() {
        TokenRow x = row("a.b\n12 \"d*N**\" \"\" := ELSE ?");
        String[] want = {"a.b", ";", "", "d\n*", "", ":=", "ELSE", ""};
        for (int k = 0; k < want.length; k++) {
            due("textAt(" + k + ", -1)", x.textAt(k, -1), NONE);
            for (int i = 0; i < want[k].length(); i++) {
                due("textAt(" + k + ", " + i + ")", x.textAt(k, i), (int) want[k].charAt(i));
            }
            due("textAt(" + k + ", " + want[k].length() + ")", x.textAt(k, want[k].length()), NONE);
            for (int i : FAR) {
                due("textAt(" + k + ", " + i + ")", x.textAt(k, i), NONE);
            }
        }
        x = row("a.b\n12");
        for (int i = -1; i <= 1; i++) {
            for (int k : new int[] {-1, 4, 1000, 1001}) {
                due("textAt(" + k + ", " + i + ") of none", x.textAt(k, i), NONE);
            }
            for (int k : FAR) {
                due("textAt(" + k + ", " + i + ") of none", x.textAt(k, i), NONE);
            }
        }
        for (int k : FAR) {
            for (int i : FAR) {
                due("textAt(" + k + ", " + i + ") of none", x.textAt(k, i), NONE);
            }
        }
        // All bytes of the longest texts, and none behind them.
        reads("\"" + "ab".repeat(100) + "\"", "string:" + "ab".repeat(100), "END202");
        x = row("\"" + "a".repeat(200) + "\"\"" + "b".repeat(200) + "\"");
        due("byte 199 of a string of 200", x.textAt(0, 199), 97);
        due("byte 200 of a string of 200", x.textAt(0, 200), NONE);
        x = row("n".repeat(40) + " m");
        due("byte 39 of a name of 40", x.textAt(0, 39), 110);
        due("byte 40 of a name of 40", x.textAt(0, 40), NONE);
        x = row("+".repeat(999) + "-");
        due("byte 0 of token 999", x.textAt(999, 0), 45);
        due("byte 1 of token 999", x.textAt(999, 1), NONE);
        due("byte 0 of token 1000", x.textAt(1000, 0), NONE);
    }

    // ---- what it is: "An object is used for at most 512 calls after it has been made"

    private static void calls512() {
        // The 512th call is answered as the first is, however the calls ahead of it were spent.
        TokenRow x = new TokenRow();
        for (int round = 0; round < 10; round++) {
            for (int i = 0; i < 50; i++) {
                due("feed " + i + " of round " + round, x.feed(0x610A610A, 0x610A610A, 0x610A610A, 0x610A610A, 0x610A610A), true);
            }
            due("read of round " + round, x.read(), 1000);
        }
        due("call 511", x.size(998), 1);
        due("call 512", x.textAt(998, 0), 97);

        x = new TokenRow();
        for (int call = 1; call <= 512; call++) {
            due("read as call " + call, x.read(), 1);
        }

        x = new TokenRow();
        for (int call = 1; call <= 512; call++) {
            due("feed as call " + call, x.feed(-1, -1, -1, -1, -1), call <= 50);
        }

        x = new TokenRow();
        for (int call = 1; call <= 510; call++) {
            due("end as call " + call, x.end(call % 2), call % 2 == 0);
        }
        due("feed as call 511", x.feed(0x61626364, SPACES, SPACES, SPACES, SPACES), true);
        due("read as call 512", x.read(), 2);

        x = new TokenRow();
        for (int round = 0; round < 128; round++) {
            int letter = 'a' + round % 26;
            due("feed of round " + round, x.feed(letter << 24 | 0x202020, SPACES, SPACES, SPACES, SPACES), true);
            due("end of round " + round, x.end(round % 20 + 1), true);
            due("read of round " + round, x.read(), 2);
            due("textAt of round " + round, x.textAt(0, 0), letter);
        }
        // What is answered behind the 512th call is free; that there is an answer is not.
        for (int call = 0; call < 5000; call++) {
            useFreely(x, call);
        }
    }

    private static void useFreely(TokenRow x, int call) {
        int k = call * 0x9E3779B1 >> call % 32;
        x.feed(k, -k, k * 7, k * 31, k * 127);
        x.end(call % 3 == 0 ? k : call % 1001);
        if (call % 17 == 0) {
            x.read();
        }
        x.kind(k);
        x.place(k);
        x.line(k);
        x.value(k);
        x.level(k);
        x.size(k);
        x.textAt(k, k);
        x.textAt(0, k);
        x.textAt(k, 0);
    }
}
