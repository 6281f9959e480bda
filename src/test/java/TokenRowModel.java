import java.math.BigInteger;
import java.nio.charset.StandardCharsets;
import java.util.ArrayList;
import java.util.List;
import java.util.Random;
import java.util.Set;
import java.util.regex.Matcher;
import java.util.regex.Pattern;

/** Compares the class with a second tokenizer, built on regular expressions, over made-up texts. */
public final class TokenRowModel {
    private record Token(int kind, int place, int line, int value, int level, String text) { }

    private static final int NONE = TokenRow.NONE;
    private static final int OBJECTS = 6000;
    private static final int CALLS = 512;

    private static final Set<String> KEYWORDS = Set.of(
        ("TRUE FALSE REM EQV NEQV NOT VALOF TABLE IF UNLESS TEST WHILE UNTIL FOR SWITCHON CASE DEFAULT BREAK LOOP "
        + "ENDCASE RETURN RESULTIS FINISH LET AND BE GLOBAL MANIFEST STATIC VEC DO THEN OR ELSE TO BY INTO REPEAT "
        + "REPEATWHILE REPEATUNTIL").split(" "));
    private static final Set<String> FIRST = Set.of(
        "$) ) TRUE FALSE BREAK LOOP ENDCASE RETURN FINISH".split(" "));
    private static final Set<String> SECOND = Set.of(
        ("( ! @ $( TRUE FALSE VALOF TABLE IF UNLESS TEST WHILE UNTIL FOR SWITCHON CASE DEFAULT BREAK LOOP ENDCASE "
        + "RETURN RESULTIS FINISH LET GLOBAL MANIFEST STATIC").split(" "));
    private static final List<Set<String>> LEVELS = List.of(
        Set.of("EQV", "NEQV"), Set.of("|"), Set.of("&"), Set.of("<<", ">>"),
        Set.of("=", "~=", "<", "<=", ">", ">="), Set.of("+", "-"), Set.of("*", "/", "REM"));

    private static final String STAR = "\\*[NST'\"*]";
    private static final Pattern GAP = Pattern.compile("(?:[\\t\\r \\n]|//[^\\n]*)*");
    private static final Pattern TOKEN = Pattern.compile(
        "(?<word>[A-Za-z][A-Za-z0-9._]*)"
        + "|(?<decimal>[0-9]+)|#(?<octal>[0-7]+)|#X(?<hexadecimal>[0-9A-F]+)"
        + "|'(?<character>[\\x20-\\x7e&&[^'*]]|" + STAR + ")'"
        + "|\"(?<string>(?:[\\x20-\\x7e&&[^\"*]]|" + STAR + ")*)\""
        + "|(?<sign>\\$\\(|\\$\\)|:=|~=|<=|>=|<<|>>|->|[(),;:!@+\\-*/=<>~&|])");

    private static int wrong = 0;
    private static int left = 0;

    public static void main(String[] args) {
        Random random = new Random(20261115);
        for (int i = 0; i < OBJECTS && wrong < 100; i++) {
            useOneObject(random);
        }
        System.out.println(wrong == 0 ? "all answers are as due" : wrong + " answers are not as due");
        if (wrong != 0) {
            System.exit(1);
        }
    }

    private static void due(String what, String text, long got, long want) {
        if (got != want) {
            wrong++;
            System.out.println(what + " of [" + text + "]: answered " + got + ", due is " + want);
        }
    }

    // ---- the runs

    private static void useOneObject(Random random) {
        TokenRow x = new TokenRow();
        StringBuilder tape = new StringBuilder();
        String read = "";
        List<Token> tokens = List.of();
        left = CALLS;
        while (left > 0) {
            int way = random.nextInt(100);
            if (way < 40) {
                askOne(x, tokens, read, random);
            } else if (way < 50) {
                endSomewhere(x, tape, random);
            } else if (way < 88) {
                feedText(x, tape, madeUp(random));
            } else if (spend(1)) {
                read = tape.toString();
                tokens = tokensOf(read);
                tape.setLength(0);
                due("read", read, x.read(), tokens.size());
                askSome(x, tokens, read, random.nextInt(tokens.size() + 1) - 1);
            }
        }
    }

    /** What an object answers behind its last call is free, so that no more than those may be asked. */
    private static boolean spend(int calls) {
        boolean fine = calls <= left;
        left = fine ? left - calls : 0;
        return fine;
    }

    private static void endSomewhere(TokenRow x, StringBuilder tape, Random random) {
        int n = random.nextInt(10) == 0 ? random.nextInt() : random.nextInt(tape.length() + 4) - 1;
        if (!spend(1)) {
            return;
        }
        boolean fine = n >= 0 && n <= tape.length();
        due("end " + n, tape.toString(), x.end(n) ? 1 : 0, fine ? 1 : 0);
        if (fine) {
            tape.setLength(n);
        }
    }

    private static void feedText(TokenRow x, StringBuilder tape, String text) {
        for (int from = 0; from < text.length() && spend(1); from += 20) {
            StringBuilder part = new StringBuilder(text.substring(from, Math.min(from + 20, text.length())));
            while (part.length() < 20) {
                part.append(' ');
            }
            byte[] bytes = part.toString().getBytes(StandardCharsets.ISO_8859_1);
            int[] w = new int[5];
            for (int i = 0; i < 5; i++) {
                w[i] = new BigInteger(1, java.util.Arrays.copyOfRange(bytes, 4 * i, 4 * i + 4)).intValue();
            }
            boolean fine = tape.length() + 20 <= 1000;
            due("feed", part.toString(), x.feed(w[0], w[1], w[2], w[3], w[4]) ? 1 : 0, fine ? 1 : 0);
            if (fine) {
                tape.append(part);
            }
        }
    }

    private static void askOne(TokenRow x, List<Token> tokens, String text, Random random) {
        int k = random.nextInt(20) == 0 ? random.nextInt() : random.nextInt(tokens.size() + 3) - 1;
        ask(x, tokens, text, k);
        if (spend(1)) {
            int far = random.nextBoolean() ? -1 - random.nextInt(1000) : 1000 + random.nextInt(1000);
            due("textAt " + k + " " + far, text, x.textAt(k, far), NONE);
        }
    }

    private static void askSome(TokenRow x, List<Token> tokens, String text, int from) {
        for (int k = from; k <= tokens.size() && k < from + 12; k++) {
            ask(x, tokens, text, k);
        }
    }

    private static void ask(TokenRow x, List<Token> tokens, String text, int k) {
        Token t = k >= 0 && k < tokens.size() ? tokens.get(k) : null;
        int size = t == null ? 0 : t.text.length();
        if (!spend(6 + size + 2)) {
            return;
        }
        due("kind " + k, text, x.kind(k), t == null ? NONE : t.kind);
        due("place " + k, text, x.place(k), t == null ? NONE : t.place);
        due("line " + k, text, x.line(k), t == null ? NONE : t.line);
        due("value " + k, text, x.value(k), t == null ? 0 : t.value);
        due("level " + k, text, x.level(k), t == null ? NONE : t.level);
        due("size " + k, text, x.size(k), t == null ? NONE : t.text.length());
        for (int i = -1; i <= size; i++) {
            due("textAt " + k + " " + i, text, x.textAt(k, i), i < 0 || i >= size ? NONE : t.text.charAt(i));
        }
    }

    // ---- the texts

    private static final String[] PIECES =
        ("a x1 a.b_c TRUE FALSE REM EQV NEQV NOT VALOF TABLE IF UNLESS TEST WHILE UNTIL FOR SWITCHON CASE DEFAULT BREAK "
        + "LOOP ENDCASE RETURN RESULTIS FINISH LET AND BE GLOBAL MANIFEST STATIC VEC DO THEN OR ELSE TO BY INTO REPEAT "
        + "REPEATWHILE REPEATUNTIL $( $) ( ) , ; := : ! @ + - * / = ~= < <= > >= << >> ~ & | -> 0 12 #17 #X1F 4294967295 "
        + "#37777777777 #XFFFFFFFF 'c' '*N' '*S' '*T' '*'' '*\"' '**' '\"' \"s\" \"\" \"a*Nb\" \"*\"'**\" \"+\" \"IF\"").split(" ");
    private static final String[] ODD_PIECES =
        {"4294967296", "#40000000000", "#X100000000", "#", "#X", "#9", "$", "'", "\"", "'ab'", "''", "*", "'*'", "\"*",
         "?", ".", "_", "\u0000", "\u00ff", "//", "// r \"'\u00e9", "\u000b", "#x1", "#X1f", "TRUe", "REPEATER", "9".repeat(30)};
    private static final String[] GAPS = {"", "", " ", " ", "\t", "\r", "\n", "\n", "\r\n", "\n\n", " // r\n", "//\n"};

    private static String madeUp(Random random) {
        StringBuilder b = new StringBuilder();
        int pieces = random.nextInt(30);
        for (int i = 0; i < pieces; i++) {
            int way = random.nextInt(400);
            if (way == 0) {
                b.append(ODD_PIECES[random.nextInt(ODD_PIECES.length)]);
            } else if (way == 1) {
                b.append("n".repeat(38 + random.nextInt(4)));
            } else if (way == 2) {
                b.append('"').append((random.nextBoolean() ? "s" : "*N").repeat(198 + random.nextInt(4))).append('"');
            } else if (way == 3) {
                b.append((char) random.nextInt(256));
            } else if (way < 12) {
                b.append("$():=~<>-/*#X1A'\"!".charAt(random.nextInt(18)));
            } else {
                b.append(PIECES[random.nextInt(PIECES.length)]);
            }
            b.append(GAPS[random.nextInt(GAPS.length)]);
        }
        return b.toString();
    }

    // ---- the second tokenizer

    private static List<Token> tokensOf(String text) {
        List<Token> all = new ArrayList<>();
        Matcher gap = GAP.matcher(text);
        Matcher token = TOKEN.matcher(text);
        int at = 0;
        while (true) {
            gap.region(at, text.length()).lookingAt();
            at = gap.end();
            int line = (int) text.substring(0, at).chars().filter(c -> c == '\n').count();
            if (at == text.length()) {
                all.add(new Token(5, at, line, 0, NONE, ""));
                return all;
            }
            Token next = token.region(at, text.length()).lookingAt() ? meant(token, at, line) : null;
            if (next == null) {
                all.add(new Token(6, at, line, 0, NONE, ""));
                return all;
            }
            if (!all.isEmpty()) {
                Token last = all.get(all.size() - 1);
                if (last.line < line && isOf(FIRST, last) && isOf(SECOND, next)) {
                    all.add(new Token(3, at, line, 0, NONE, ";"));
                }
            }
            all.add(next);
            at = token.end();
        }
    }

    private static boolean isOf(Set<String> set, Token t) {
        return t.kind < 3 || set.contains(t.text);
    }

    private static Token meant(Matcher m, int at, int line) {
        if (m.group("word") != null) {
            String word = m.group("word");
            int kind = KEYWORDS.contains(word) ? 4 : 0;
            return word.length() > 40 ? null : new Token(kind, at, line, 0, kind == 4 ? levelOf(word) : NONE, word);
        }
        if (m.group("sign") != null) {
            return new Token(3, at, line, 0, levelOf(m.group("sign")), m.group("sign"));
        }
        if (m.group("string") != null) {
            String string = withoutStars(m.group("string"));
            return string.length() > 200 ? null : new Token(2, at, line, 0, NONE, string);
        }
        if (m.group("character") != null) {
            return new Token(1, at, line, withoutStars(m.group("character")).charAt(0), NONE, "");
        }
        BigInteger number = m.group("decimal") != null ? new BigInteger(m.group("decimal"))
            : m.group("octal") != null ? new BigInteger(m.group("octal"), 8)
            : new BigInteger(m.group("hexadecimal"), 16);
        return number.bitLength() > 32 ? null : new Token(1, at, line, number.intValue(), NONE, "");
    }

    private static int levelOf(String text) {
        for (int level = 0; level < LEVELS.size(); level++) {
            if (LEVELS.get(level).contains(text)) {
                return level;
            }
        }
        return NONE;
    }

    private static String withoutStars(String inside) {
        return Pattern.compile("\\*(.)").matcher(inside).replaceAll(r -> {
            int which = "NST".indexOf(r.group(1));
            return which < 0 ? Matcher.quoteReplacement(r.group(1)) : "\n \t".substring(which, which + 1);
        });
    }
}
