import java.lang.reflect.Constructor;
import java.lang.reflect.Field;
import java.lang.reflect.Method;
import java.lang.reflect.Modifier;
import java.nio.charset.StandardCharsets;
import java.util.Arrays;
import java.util.TreeSet;

/** The promises of the document one by one, and the edges that it names. */
public final class TokenRowPromises {
    private static final int NONE = TokenRow.NONE;
    private static final int[] ODD_NUMBERS =
        {-1, -2, 1001, 1_000_000, Integer.MAX_VALUE, Integer.MIN_VALUE, Integer.MIN_VALUE + 1};

    private static int wrong = 0;

    public static void main(String[] args) {
        face();
        twoObjects();
        newObject();
        feed();
        end();
        read();
        kinds();
        names();
        keywords();
        numbers();
        characters();
        strings();
        signs();
        gaps();
        bad();
        semicolons();
        places();
        lines();
        values();
        levels();
        sizesAndTexts();
        fullTapes();
        System.out.println(wrong == 0 ? "all answers are as due" : wrong + " answers are not as due");
        if (wrong != 0) {
            System.exit(1);
        }
    }

    // ---- how a test asks

    private static void due(String what, Object got, Object want) {
        if (!want.equals(got)) {
            wrong++;
            System.out.println(what + ": answered " + got + ", due is " + want);
        }
    }

    private static void feedBytes(TokenRow x, byte[] bytes) {
        byte[] padded = Arrays.copyOf(bytes, (bytes.length + 19) / 20 * 20);
        for (int i = 0; i < padded.length; i += 20) {
            int[] w = new int[5];
            for (int j = 0; j < 20; j++) {
                w[j / 4] = w[j / 4] << 8 | padded[i + j] & 255;
            }
            due("feed", x.feed(w[0], w[1], w[2], w[3], w[4]), true);
        }
        due("end", x.end(bytes.length), true);
    }

    private static TokenRow row(String text) {
        TokenRow x = new TokenRow();
        feedBytes(x, text.getBytes(StandardCharsets.ISO_8859_1));
        x.read();
        return x;
    }

    private static String textOf(TokenRow x, int k) {
        StringBuilder b = new StringBuilder();
        for (int i = 0; i < x.size(k); i++) {
            b.append((char) x.textAt(k, i));
        }
        return b.toString();
    }

    /** The row as a text: n name, i number, s string, + sign, k keyword, END, BAD with its place. */
    private static String shown(TokenRow x) {
        StringBuilder b = new StringBuilder();
        for (int k = 0; x.kind(k) != NONE; k++) {
            b.append(k == 0 ? "" : " ");
            switch (x.kind(k)) {
                case 0 -> b.append("n:").append(textOf(x, k));
                case 1 -> b.append("i:").append(x.value(k));
                case 2 -> b.append("s:").append(textOf(x, k));
                case 3 -> b.append("+:").append(textOf(x, k));
                case 4 -> b.append("k:").append(textOf(x, k));
                case 5 -> b.append("END").append(x.place(k));
                case 6 -> b.append("BAD").append(x.place(k));
                default -> b.append("?").append(x.kind(k));
            }
        }
        return b.toString();
    }

    private static void reads(String text, String want) {
        due("the tokens of [" + text + "]", shown(row(text)), want);
    }

    // ---- the face

    private static void face() {
        TreeSet<String> open = new TreeSet<>();
        for (Method m : TokenRow.class.getDeclaredMethods()) {
            if (!Modifier.isPrivate(m.getModifiers())) {
                open.add(m.toString().replace("TokenRow.", ""));
            }
        }
        for (Constructor<?> c : TokenRow.class.getDeclaredConstructors()) {
            open.add(c.toString());
        }
        for (Field f : TokenRow.class.getDeclaredFields()) {
            if (!Modifier.isPrivate(f.getModifiers())) {
                open.add(f.toString().replace("TokenRow.", ""));
            }
        }
        due("the face", open, new TreeSet<>(Arrays.asList(
            "public static final int NONE", "public TokenRow()",
            "public boolean feed(int,int,int,int,int)", "public boolean end(int)", "public int read()",
            "public int kind(int)", "public int place(int)", "public int line(int)",
            "public int value(int)", "public int level(int)", "public int size(int)",
            "public int textAt(int,int)")));
        due("the class is final", Modifier.isFinal(TokenRow.class.getModifiers()), true);
        due("NONE", TokenRow.NONE, -1);
    }

    private static void noToken(TokenRow x, int k) {
        due("kind " + k, x.kind(k), NONE);
        due("place " + k, x.place(k), NONE);
        due("line " + k, x.line(k), NONE);
        due("value " + k, x.value(k), 0);
        due("level " + k, x.level(k), NONE);
        due("size " + k, x.size(k), NONE);
        due("textAt " + k, x.textAt(k, 0), NONE);
        due("textAt " + k, x.textAt(k, k), NONE);
    }

    // ---- "All memory is the class's own."

    /** Calls of two objects in turn: neither may answer from the other's tape, tokens or texts. */
    private static void twoObjects() {
        TokenRow x = new TokenRow();
        TokenRow y = new TokenRow();
        feedBytes(x, "IF \"*Tab\" 12\nc".getBytes(StandardCharsets.ISO_8859_1));
        feedBytes(y, "d + 'e'".getBytes(StandardCharsets.ISO_8859_1));
        due("read of the first", x.read(), 6);
        noToken(y, 0);
        due("the second's tape is not empty", y.end(7), true);
        due("the first's tape is", x.end(1), false);
        due("read of the second", y.read(), 4);
        due("the first's tokens", shown(x), "k:IF s:\tab i:12 +:; n:c END14");
        due("the second's tokens", shown(y), "n:d +:+ i:101 END7");
        due("the first's lines", x.line(2) + 10 * x.line(3) + 100 * x.line(5), 110);
        due("the first's places", x.place(1) + 100 * x.place(2), 1003);
        due("the second's level", y.level(1), 5);
    }

    // ---- promise 1

    private static void newObject() {
        TokenRow x = new TokenRow();
        noToken(x, 0);
        noToken(x, 1);
        for (int k : ODD_NUMBERS) {
            noToken(x, k);
        }
        due("end(1) of a new one", x.end(1), false);
        due("end(0) of a new one", x.end(0), true);
        due("read of a new one", x.read(), 1);
        due("its token", shown(x), "END0");
    }

    // ---- promise 2

    private static void feed() {
        TokenRow x = new TokenRow();
        due("feed", x.feed(0x61626364, 0x65666768, 0x696A6B6C, 0x6D6E6F70, 0x71727374), true);
        noToken(x, 0);
        due("read", x.read(), 2);
        due("bytes, the highest first", shown(x), "n:abcdefghijklmnopqrst END20");

        x = new TokenRow();
        for (int i = 0; i < 50; i++) {
            due("feed " + i, x.feed(0x61202020, 0x20202020, 0x20202020, 0x20202020, 0x20202020), true);
        }
        due("feed 51", x.feed(0x62202020, 0, 0, 0, 0), false);
        due("end(1001)", x.end(1001), false);
        due("read of a full tape", x.read(), 51);
        due("the last name's place", x.place(49), 980);
        due("END's place", x.place(50), 1000);

        x = new TokenRow();
        for (int i = 0; i < 50; i++) {
            x.feed(0x20202020, 0x20202020, 0x20202020, 0x20202020, 0x20202020);
        }
        due("end(981)", x.end(981), true);
        due("feed at 981", x.feed(0x61616161, 0x61616161, 0x61616161, 0x61616161, 0x61616161), false);
        due("end(981) still", x.end(981), true);
        due("end(982)", x.end(982), false);
        due("end(980)", x.end(980), true);
        due("feed at 980", x.feed(0x61616161, 0x61616161, 0x61616161, 0x61616161, 0x61616161), true);
        due("read", x.read(), 2);
        due("the name's place", x.place(0), 980);

        // The highest bit of a byte does not reach into the bytes ahead of it.
        x = new TokenRow();
        due("feed of high bytes", x.feed(0x61FF62FF, -1, -1, -1, -1), true);
        x.read();
        due("high bytes", shown(x), "n:a BAD1");
    }

    // ---- promise 3

    private static void end() {
        TokenRow x = new TokenRow();
        x.feed(0x61206220, 0x63206420, 0x65206620, 0x67206820, 0x69206A20);
        for (int n : ODD_NUMBERS) {
            due("end(" + n + ")", x.end(n), false);
        }
        due("end(21)", x.end(21), false);
        due("end(20)", x.end(20), true);
        due("end(3)", x.end(3), true);
        due("end(4) then", x.end(4), false);
        due("end(3) again", x.end(3), true);
        due("end(-1) then", x.end(-1), false);
        due("feed behind the 3", x.feed(0x78207920, 0x20202020, 0x20202020, 0x20202020, 0x20202020), true);
        due("end(23)", x.end(23), true);
        due("end(24)", x.end(24), false);
        x.read();
        due("the bytes that count", shown(x), "n:a n:bx n:y END23");

        // A token may not reach into the bytes that do not count.
        reads("ab", "n:ab END2");
        x = new TokenRow();
        x.feed(0x3A3D3A3D, 0x61626364, 0, 0, 0);
        due("end(1)", x.end(1), true);
        x.read();
        due("half of :=", shown(x), "+:: END1");
        x = new TokenRow();
        x.feed(0x27612720, 0, 0, 0, 0);
        x.end(2);
        x.read();
        due("two thirds of 'a'", shown(x), "BAD0");
        x = new TokenRow();
        x.feed(0x2F2F0A20, 0, 0, 0, 0);
        x.end(1);
        x.read();
        due("half of //", shown(x), "+:/ END1");
    }

    // ---- promise 4

    private static void read() {
        TokenRow x = new TokenRow();
        feedBytes(x, "x := 1".getBytes(StandardCharsets.ISO_8859_1));
        due("read", x.read(), 4);
        due("its tokens", shown(x), "n:x +::= i:1 END6");
        due("the tape is empty", x.end(1), false);
        due("feed keeps the tokens", x.feed(0x41206220, 0, 0, 0, 0), true);
        due("its tokens still", shown(x), "n:x +::= i:1 END6");
        due("end keeps the tokens", x.end(3), true);
        due("its tokens still", shown(x), "n:x +::= i:1 END6");
        due("read again", x.read(), 3);
        due("the new tokens", shown(x), "n:A n:b END3");
        noToken(x, 3);
        due("read of nothing", x.read(), 1);
        due("END alone", shown(x), "END0");
        noToken(x, 1);
        feedBytes(x, "a\n\n\n?".getBytes(StandardCharsets.ISO_8859_1));
        due("read with BAD", x.read(), 2);
        feedBytes(x, "b \n c".getBytes(StandardCharsets.ISO_8859_1));
        due("a new text begins anew", x.read(), 4);
        due("its tokens", shown(x), "n:b +:; n:c END5");
        due("its lines", x.line(0) + 10 * x.line(1) + 100 * x.line(2), 110);
    }

    // ---- promise 5 and the terms

    private static void kinds() {
        TokenRow x = row("ab 12 'c' \"d\" $( IF");
        int[] want = {0, 1, 1, 2, 3, 4, 5, NONE};
        for (int k = 0; k < want.length; k++) {
            due("kind " + k, x.kind(k), want[k]);
        }
        for (int k : ODD_NUMBERS) {
            noToken(x, k);
        }
        x = row("ab {");
        due("kind of BAD", x.kind(1), 6);
        noToken(x, 2);
    }

    private static void names() {
        reads("a Z a1 a.b a_b a..__9 z.", "n:a n:Z n:a1 n:a.b n:a_b n:a..__9 n:z. END24");
        reads("_a", "BAD0");
        reads(".a", "BAD0");
        reads("a.", "n:a. END2");
        reads("1a", "i:1 n:a END2");
        reads("a-b", "n:a +:- n:b END3");
        reads("@a[", "+:@ n:a BAD2");
        reads("`", "BAD0");
        reads("{", "BAD0");
        reads("a\u00e4", "n:a BAD1");
        String forty = "abcdefghij".repeat(4);
        reads(forty, "n:" + forty + " END40");
        reads(" " + forty + "k", "BAD1");
        reads(forty + ".", "BAD0");
        reads("A".repeat(1000), "BAD0");
    }

    private static final String KEYWORDS =
        "TRUE FALSE REM EQV NEQV NOT VALOF TABLE IF UNLESS TEST WHILE UNTIL FOR SWITCHON CASE DEFAULT BREAK LOOP "
        + "ENDCASE RETURN RESULTIS FINISH LET AND BE GLOBAL MANIFEST STATIC VEC DO THEN OR ELSE TO BY INTO REPEAT "
        + "REPEATWHILE REPEATUNTIL";

    private static void keywords() {
        due("how many keywords", KEYWORDS.split(" ").length, 40);
        for (String word : KEYWORDS.split(" ")) {
            int size = word.length();
            reads(word, "k:" + word + " END" + size);
            reads(word.toLowerCase(), "n:" + word.toLowerCase() + " END" + size);
            String mixed = word.substring(0, size - 1) + word.substring(size - 1).toLowerCase();
            reads(mixed, "n:" + mixed + " END" + size);
            reads(word + "X", "n:" + word + "X END" + (size + 1));
            reads(word + ".", "n:" + word + ". END" + (size + 1));
            reads(word + "_", "n:" + word + "_ END" + (size + 1));
            reads(word + "0", "n:" + word + "0 END" + (size + 1));
            reads("X" + word, "n:X" + word + " END" + (size + 1));
            reads("(" + word + ")", "+:( k:" + word + " +:) END" + (size + 2));
        }
        reads("T TRU RE REPEATW REPEATUNTI O D", "n:T n:TRU n:RE n:REPEATW n:REPEATUNTI n:O n:D END31");
        reads("GET MOD", "n:GET n:MOD END7");
    }

    private static void numbers() {
        reads("0 7 10 00012", "i:0 i:7 i:10 i:12 END12");
        reads("2147483647 2147483648", "i:2147483647 i:-2147483648 END21");
        reads("4294967295", "i:-1 END10");
        reads("4294967296", "BAD0");
        reads(" 9999999999999999999999", "BAD1");
        reads("18446744073709551616", "BAD0");
        reads("18446744073709551617", "BAD0");
        reads("0".repeat(900) + "4294967295", "i:-1 END910");
        reads("0".repeat(900) + "4294967296", "BAD0");
        reads("9".repeat(1000), "BAD0");
        reads("#0 #17 #777", "i:0 i:15 i:511 END11");
        reads("#37777777777", "i:-1 END12");
        reads("#40000000000", "BAD0");
        reads("#" + "7".repeat(100), "BAD0");
        reads("#" + "0".repeat(100) + "12", "i:10 END103");
        reads("#18", "i:1 i:8 END3");
        reads("#8", "BAD0");
        reads("#9", "BAD0");
        reads("#", "BAD0");
        reads("# 1", "BAD0");
        reads("#A", "BAD0");
        reads("##1", "BAD0");
        reads("#1#2", "i:1 i:2 END4");
        reads("#X0 #X1F #XABCDEF #X9", "i:0 i:31 i:11259375 i:9 END21");
        reads("#XFFFFFFFF", "i:-1 END10");
        reads("#X80000000", "i:-2147483648 END10");
        reads("#X100000000", "BAD0");
        reads("#X" + "0".repeat(50) + "FFFFFFFF", "i:-1 END60");
        reads("#X" + "F".repeat(500), "BAD0");
        reads("#X10000000000000000", "BAD0");
        reads("#X", "BAD0");
        reads("#XG", "BAD0");
        reads("#Xa", "BAD0");
        reads("#x1", "BAD0");
        reads("#X1f", "i:1 n:f END4");
        reads("#X1G", "i:1 n:G END4");
        reads("#X1@", "i:1 +:@ END4");
        reads("1.5", "i:1 BAD1");
        reads("1_", "i:1 BAD1");
        reads("12F", "i:12 n:F END3");
        reads("1:2", "i:1 +:: i:2 END3");
        reads("1/2", "i:1 +:/ i:2 END3");
        reads("-1", "+:- i:1 END2");
    }

    private static void characters() {
        for (int c = 0; c < 256; c++) {
            boolean fine = c >= 32 && c <= 126 && c != '\'' && c != '*';
            reads("'" + (char) c + "'", fine ? "i:" + c + " END3" : "BAD0");
        }
        for (int c = 0; c < 256; c++) {
            int at = "NST'\"*".indexOf(c);
            String text = "'*" + (char) c + "'";
            reads(text, at < 0 ? "BAD0" : "i:" + new int[] {10, 32, 9, 39, 34, 42}[at] + " END4");
        }
        reads("''", "BAD0");
        reads("'", "BAD0");
        reads("'a", "BAD0");
        reads("'*", "BAD0");
        reads("'*N", "BAD0");
        reads("a 'ab'", "n:a BAD2");
        reads("'a''b'", "i:97 i:98 END6");
        reads("'*'", "BAD0");
        reads("'\"'", "i:34 END3");
        reads("'*n'", "BAD0");
    }

    private static void strings() {
        for (int c = 0; c < 256; c++) {
            if (c == '"') {
                continue;
            }
            boolean fine = c >= 32 && c <= 126 && c != '*';
            reads("\"" + (char) c + "\"", fine ? "s:" + (char) c + " END3" : "BAD0");
        }
        for (int c = 0; c < 256; c++) {
            int at = "NST'\"*".indexOf(c);
            String text = "\"*" + (char) c + "\"";
            reads(text, at < 0 ? "BAD0" : "s:" + "\n \t'\"*".charAt(at) + " END4");
        }
        reads("\"\"", "s: END2");
        reads("\"\"\"\"", "s: s: END4");
        reads("\"", "BAD0");
        reads("\"abc", "BAD0");
        reads("\"a*\"", "BAD0");
        reads("\"a*", "BAD0");
        reads("x \"a\nb\"", "n:x BAD2");
        reads("\"a//b\"", "s:a//b END6");
        reads("\"it's\"", "s:it's END6");
        reads("\"a*Nb*S*T*'*\"**c\"", "s:a\nb \t'\"*c END17");
        String many = "abcdefghij".repeat(20);
        reads("\"" + many + "\"", "s:" + many + " END202");
        reads(" \"" + many + "k\"", "BAD1");
        reads("\"" + "*N".repeat(200) + "\"", "s:" + "\n".repeat(200) + " END402");
        reads("\"" + "*N".repeat(201) + "\"", "BAD0");
        reads("\"" + many, "BAD0");
        reads("\"" + "a".repeat(999), "BAD0");
        // What a bad string had up to its fault leaves nothing behind.
        TokenRow x = row("a \"bcd?\n\"");
        due("size of the name", x.size(0), 1);
        due("size of BAD", x.size(1), 0);
        due("text of BAD", x.textAt(1, 0), NONE);
    }

    private static final String SIGNS = "$( $) ( ) , ; := : ! @ + - * / = ~= < <= > >= << >> ~ & | ->";

    private static void signs() {
        for (String sign : SIGNS.split(" ")) {
            reads(sign, "+:" + sign + " END" + sign.length());
            reads(sign + "a", "+:" + sign + " n:a END" + (sign.length() + 1));
            reads("a" + sign, "n:a +:" + sign + " END" + (sign.length() + 1));
            reads(sign + " ", "+:" + sign + " END" + (sign.length() + 1));
        }
        reads(":==", "+::= +:= END3");
        reads("::=", "+:: +::= END3");
        reads(": =", "+:: +:= END3");
        reads("~==", "+:~= +:= END3");
        reads("~~=", "+:~ +:~= END3");
        reads("<<=", "+:<< +:= END3");
        reads("<<<=", "+:<< +:<= END4");
        reads("<=<", "+:<= +:< END3");
        reads(">>>", "+:>> +:> END3");
        reads(">>=", "+:>> +:= END3");
        reads("->>", "+:-> +:> END3");
        reads("-->", "+:- +:-> END3");
        reads("<->", "+:< +:-> END3");
        reads("=<", "+:= +:< END2");
        reads("=>", "+:= +:> END2");
        reads("<>", "+:< +:> END2");
        reads("$($)", "+:$( +:$) END4");
        reads("($(", "+:( +:$( END3");
        reads("$", "BAD0");
        reads("$ (", "BAD0");
        reads("$$(", "BAD0");
        reads("a$", "n:a BAD1");
        reads("/ /", "+:/ +:/ END3");
        reads("*/", "+:* +:/ END2");
        reads("&&||", "+:& +:& +:| +:| END4");
        String beginning = "$(),;:!@+-*/=~<>&|#'\"";
        for (int c = 33; c < 256; c++) {
            boolean fine = c < 128 && (Character.isLetterOrDigit(c) || beginning.indexOf(c) >= 0);
            if (!fine) {
                reads("1 " + (char) c + " 2", "i:1 BAD2");
            }
        }
    }

    private static void gaps() {
        for (int c = 0; c < 33; c++) {
            boolean gap = c == 9 || c == 13 || c == 32 || c == 10;
            String put = c == 10 ? "+:; " : "";
            reads("a" + (char) c + "b", gap ? "n:a " + put + "n:b END3" : "n:a BAD1");
        }
        reads("   ", "END3");
        reads("\n\n", "END2");
        reads("// all of it", "END12");
        reads("//", "END2");
        reads("a//", "n:a END3");
        reads("a//b\nc", "n:a +:; n:c END6");
        reads("a // b // c\r\n+ d", "n:a +:+ n:d END16");
        reads("//\u0000\u00ff{\"'$#\na", "n:a END11");
        reads("///a\nb", "n:b END6");
        reads("a/b//c", "n:a +:/ n:b END6");
        reads("a / / b", "n:a +:/ +:/ n:b END7");
        reads("a /\n/ b", "n:a +:/ +:/ n:b END7");
        reads("IF//x\nTRUE", "k:IF k:TRUE END10");
    }

    private static void bad() {
        reads("?", "BAD0");
        reads("a ? b", "n:a BAD2");
        reads("a\n  ?", "n:a BAD4");
        reads("\u0000", "BAD0");
        reads("\u007f", "BAD0");
        reads("a\u0080", "n:a BAD1");
        reads("a 4294967296 b", "n:a BAD2");
        reads("a 'bc' d", "n:a BAD2");
        reads("% [ ]", "BAD0");
        TokenRow x = row("a\n\nb ?");
        due("line of BAD", x.line(3), 2);
        due("value of BAD", x.value(3), 0);
        due("level of BAD", x.level(3), NONE);
        due("size of BAD", x.size(3), 0);
        due("text of BAD", x.textAt(3, 0), NONE);
        x = row("7 4294967296");
        due("value of a BAD number", x.value(1), 0);
        x = row("'ab");
        due("value of a BAD 'C'", x.value(0), 0);
    }

    // ---- where a ; is understood

    private static void semicolons() {
        TreeSet<String> first = new TreeSet<>(Arrays.asList(
            "a 1 #7 #X7 'c' \"s\" $) ) TRUE FALSE BREAK LOOP ENDCASE RETURN FINISH".split(" ")));
        TreeSet<String> second = new TreeSet<>(Arrays.asList(
            ("a 1 #7 #X7 'c' \"s\" ( ! @ $( TRUE FALSE VALOF TABLE IF UNLESS TEST WHILE UNTIL FOR SWITCHON CASE DEFAULT "
            + "BREAK LOOP ENDCASE RETURN RESULTIS FINISH LET GLOBAL MANIFEST STATIC").split(" ")));
        String[] all = ("a 1 #7 #X7 'c' \"s\" " + SIGNS + " " + KEYWORDS).split(" ");
        for (String one : all) {
            for (String two : all) {
                boolean put = first.contains(one) && second.contains(two);
                TokenRow x = row(one + "\n" + two);
                due("; between " + one + " and " + two, x.kind(put ? 3 : 2), 5);
                if (put) {
                    due("kind of the ;", x.kind(1), 3);
                    due("text of the ;", textOf(x, 1), ";");
                    due("place of the ;", x.place(1), one.length() + 1);
                    due("place behind the ;", x.place(2), one.length() + 1);
                }
                due("no ; in one line: " + one + " " + two, row(one + " \t\r" + two).kind(2), 5);
            }
        }
        reads("a\n", "n:a END2");
        reads("\na", "n:a END2");
        reads("a\n?", "n:a BAD2");
        reads("a\n'", "n:a BAD2");
        reads("a\n\n\n\nb", "n:a +:; n:b END6");
        reads("a // one\n // two\n b", "n:a +:; n:b END19");
        reads("a;\nb", "n:a +:; n:b END4");
        reads("a\n;b", "n:a +:; n:b END4");
        reads("a\n;\nb", "n:a +:; n:b END5");
        reads("a +\nb", "n:a +:+ n:b END5");
        reads("a\n+ b", "n:a +:+ n:b END5");
        reads("a\nb\nc", "n:a +:; n:b +:; n:c END5");
        reads("f(x)\n(y)", "n:f +:( n:x +:) +:; +:( n:y +:) END8");
        reads("a\nif", "n:a +:; n:if END4");
        reads("REPEAT\na", "k:REPEAT n:a END8");
        reads("a\nREPEAT", "n:a k:REPEAT END8");
        reads("$)\nELSE\n$(", "+:$) k:ELSE +:$( END10");
        // A string's text does not make it a sign or a keyword.
        reads("\"+\"\n\"+\"", "s:+ +:; s:+ END7");
        reads("\"IF\"\n\"DO\"", "s:IF +:; s:DO END9");
        reads("\")\"\n)", "s:) +:) END5");

        TokenRow x = row("a  \n \n  12");
        due("kind of a ; put in", x.kind(1), 3);
        due("place of a ; put in", x.place(1), 8);
        due("line of a ; put in", x.line(1), 2);
        due("value of a ; put in", x.value(1), 0);
        due("level of a ; put in", x.level(1), NONE);
        due("size of a ; put in", x.size(1), 1);
        due("text of a ; put in", x.textAt(1, 0), 59);
        due("text behind it", x.textAt(1, 1), NONE);
        due("text ahead of it", x.textAt(1, -1), NONE);
        due("value behind the ; put in", x.value(2), 12);
        due("size behind the ; put in", x.size(2), 0);
    }

    // ---- promises 6 to 11

    private static void places() {
        TokenRow x = row("ab := #X1F\n 'c' // d\n\"ef\" ");
        int[] want = {0, 3, 6, 12, 12, 21, 21, 26, NONE};
        for (int k = 0; k < want.length; k++) {
            due("place " + k, x.place(k), want[k]);
        }
        for (int k : ODD_NUMBERS) {
            due("place " + k, x.place(k), NONE);
        }
    }

    private static void lines() {
        TokenRow x = row("a b // c\n\n, d\re\n'*N' \"*N\" f\n\n");
        int[] want = {0, 0, 2, 2, 2, 3, 3, 3, 3, 5, NONE};
        for (int k = 0; k < want.length; k++) {
            due("line " + k, x.line(k), want[k]);
        }
        due("line of END", row("\n".repeat(1000)).line(0), 1000);
        due("line of END", row("//\n//").line(0), 1);
        for (int k : ODD_NUMBERS) {
            due("line " + k, x.line(k), NONE);
        }
    }

    private static void values() {
        TokenRow x = row("9 a 'b' \"9\" + IF 4294967295 #X80000001");
        int[] want = {9, 0, 98, 0, 0, 0, -1, 0x80000001, 0, 0, 0};
        for (int k = 0; k < want.length; k++) {
            due("value " + k, x.value(k), want[k]);
        }
        for (int k : ODD_NUMBERS) {
            due("value " + k, x.value(k), 0);
        }
    }

    private static void levels() {
        String[] having = {"EQV NEQV", "|", "&", "<< >>", "= ~= < <= > >=", "+ -", "* / REM"};
        for (String one : (SIGNS + " " + KEYWORDS).split(" ")) {
            int want = NONE;
            for (int level = 0; level < having.length; level++) {
                if (Arrays.asList(having[level].split(" ")).contains(one)) {
                    want = level;
                }
            }
            due("level of " + one, row("x " + one).level(1), want);
        }
        TokenRow x = row("a 5 '*' \"+\" \"REM\" rem 7");
        for (int k = -1; k < 9; k++) {
            due("level " + k, x.level(k), NONE);
        }
        x = row("a 5 '+' \"+\" \"REM\" rem 7");
        for (int k = -1; k < 9; k++) {
            due("level " + k, x.level(k), NONE);
        }
        for (int k : ODD_NUMBERS) {
            due("level " + k, x.level(k), NONE);
        }
    }

    private static void sizesAndTexts() {
        TokenRow x = row("a.B_9 123 'c' \"d*N*\"e\" := ! REPEATUNTIL \"\"");
        String[] want = {"a.B_9", "", "", "d\n\"e", ":=", "!", "REPEATUNTIL", "", ""};
        for (int k = 0; k < want.length; k++) {
            due("size " + k, x.size(k), want[k].length());
            due("text " + k, textOf(x, k), want[k]);
            due("text behind " + k, x.textAt(k, want[k].length()), NONE);
            for (int i : ODD_NUMBERS) {
                due("text " + k + ", " + i, x.textAt(k, i), NONE);
            }
        }
        due("size 9", x.size(9), NONE);
        due("text 9", x.textAt(9, 0), NONE);
        for (int k : ODD_NUMBERS) {
            due("size " + k, x.size(k), NONE);
            for (int i : ODD_NUMBERS) {
                due("text " + k + ", " + i, x.textAt(k, i), NONE);
            }
        }
    }

    // ---- as much as a tape can hold

    private static void fullTapes() {
        TokenRow x = row(";".repeat(1000));
        due("kind 999", x.kind(999), 3);
        due("text 999", x.textAt(999, 0), 59);
        due("kind 1000", x.kind(1000), 5);
        due("place 1000", x.place(1000), 1000);
        noToken(x, 1001);

        x = row("a\n".repeat(500));
        due("kind 997", x.kind(997), 3);
        due("kind 998", x.kind(998), 0);
        due("text 998", x.textAt(998, 0), 97);
        due("line 998", x.line(998), 499);
        due("kind 999", x.kind(999), 5);
        noToken(x, 1000);

        x = row(")" + "\n(+)".repeat(249) + "\n(x");
        due("kind 998", x.kind(998), 3);
        due("kind 999", x.kind(999), 0);
        due("text 999", x.textAt(999, 0), 120);
        due("kind 1000", x.kind(1000), 5);
        noToken(x, 1001);

        String longName = "n".repeat(39);
        x = row((longName + "\n").repeat(25));
        due("kind 48", x.kind(48), 0);
        due("text 48", textOf(x, 48), longName);
        due("text 47", textOf(x, 47), ";");
    }
}
