/** Tokens of a language of words, with a ; put in where a line's end means one. */
public final class TokenRow {
    public static final int NONE = -1;

    private static final int NAME = 0;
    private static final int NUMBER = 1;
    private static final int STRING = 2;
    private static final int SIGN = 3;
    private static final int KEYWORD = 4;
    private static final int END = 5;
    private static final int BAD = 6;

    private static final int FEED_SIZE = 20;
    private static final int TAPE_LIMIT = 1000;
    private static final int NAME_LIMIT = 40;
    private static final int STRING_LIMIT = 200;
    private static final int LONGEST_SIGN = 2;
    private static final long NUMBER_LIMIT = 1L << 32;

    // Each token has a byte of its own, and each ; that is put in the byte 10 ahead of it, so that
    // only END comes on top; for the same reason all texts together are no longer than the tape.
    private static final int TOKEN_LIMIT = TAPE_LIMIT + 1;

    // In these lists a space stands behind every word, the last one too: it is what ends a word.
    // The keywords are parted by the side of a line's end on which a ; is understood with them.
    private static final String ENDING_SIGNS = "$) ) ";
    private static final String BEGINNING_SIGNS = "( ! @ $( ";
    private static final String ENDING_AND_BEGINNING_WORDS =
        "TRUE FALSE BREAK LOOP ENDCASE RETURN FINISH ";
    private static final String BEGINNING_WORDS =
        "VALOF TABLE IF UNLESS TEST WHILE UNTIL FOR SWITCHON CASE DEFAULT RESULTIS LET GLOBAL MANIFEST STATIC ";
    private static final String OTHER_WORDS =
        "REM EQV NEQV NOT AND BE VEC DO THEN OR ELSE TO BY INTO REPEAT REPEATWHILE REPEATUNTIL ";
    private static final String SIGNS =
        "$( $) ( ) , ; := : ! @ + - * / = ~= < <= > >= << >> ~ & | -> ";
    private static final String WITH_LEVEL =
        "EQV NEQV | & << >> = ~= < <= > >= + - * / REM ";
    private static final int[] LEVELS = {0, 0, 1, 2, 3, 3, 4, 4, 4, 4, 4, 4, 5, 5, 6, 6, 6};

    private final int[] tape;
    private int tapeSize;

    private final int[] kinds;
    private final int[] places;
    private final int[] lines;
    private final int[] values;
    private final int[] textStarts;
    private final int[] textSizes;
    private int count;
    private final int[] text;
    private int textEnd;

    // Where the reading stands, and the bits of the number that it read last.
    private int at;
    private int atLine;
    private int bits;

    public TokenRow() {
        tape = new int[TAPE_LIMIT];
        kinds = new int[TOKEN_LIMIT];
        places = new int[TOKEN_LIMIT];
        lines = new int[TOKEN_LIMIT];
        values = new int[TOKEN_LIMIT];
        textStarts = new int[TOKEN_LIMIT];
        textSizes = new int[TOKEN_LIMIT];
        text = new int[TAPE_LIMIT];
    }

    public boolean feed(int a, int b, int c, int d, int e) {
        if (tapeSize + FEED_SIZE > TAPE_LIMIT) {
            return false;
        }
        appendBytes(a);
        appendBytes(b);
        appendBytes(c);
        appendBytes(d);
        appendBytes(e);
        return true;
    }

    public boolean end(int n) {
        if (n < 0 || n > tapeSize) {
            return false;
        }
        tapeSize = n;
        return true;
    }

    public int read() {
        count = 0;
        textEnd = 0;
        at = 0;
        atLine = 0;
        boolean more = true;
        for (int turn = 0; turn < TOKEN_LIMIT && more; turn++) {
            skipGap();
            more = readToken();
        }
        tapeSize = 0;
        return count;
    }

    public int kind(int k) {
        return isToken(k) ? kinds[k] : NONE;
    }

    public int place(int k) {
        return isToken(k) ? places[k] : NONE;
    }

    public int line(int k) {
        return isToken(k) ? lines[k] : NONE;
    }

    public int value(int k) {
        return isToken(k) ? values[k] : 0;
    }

    public int level(int k) {
        if (!isToken(k) || !isSignOrKeyword(kinds[k])) {
            return NONE;
        }
        return elementAt(LEVELS, numberInList(WITH_LEVEL, text, textStarts[k], textSizes[k]));
    }

    public int size(int k) {
        return isToken(k) ? textSizes[k] : NONE;
    }

    public int textAt(int k, int i) {
        if (!isToken(k) || i < 0 || i >= textSizes[k]) {
            return NONE;
        }
        return elementAt(text, textStarts[k] + i);
    }

    private void appendBytes(int word) {
        for (int shift = 24; shift >= 0 && tapeSize < TAPE_LIMIT; shift -= 8) {
            tape[tapeSize] = (word >>> shift) & 255;
            tapeSize++;
        }
    }

    private int tapeByte(int place) {
        return place < tapeSize ? elementAt(tape, place) : NONE;
    }

    private static int elementAt(int[] row, int i) {
        return i >= 0 && i < row.length ? row[i] : NONE;
    }

    private void skipGap() {
        boolean inRemark = false;
        for (; at < tapeSize; at++) {
            int first = tapeByte(at);
            if (first == 10) {
                atLine++;
                inRemark = false;
            } else if (first == '/' && tapeByte(at + 1) == '/') {
                inRemark = true;
            } else if (!inRemark && first != 9 && first != 13 && first != 32) {
                return;
            }
        }
    }

    /** Says whether another token may follow. */
    private boolean readToken() {
        int place = at;
        int textStart = textEnd;
        bits = 0;
        int kind = takeToken();
        if (kind == BAD) {
            textEnd = textStart;
        }
        int textSize = textEnd - textStart;
        if (isSemicolonDue(kind, textStart, textSize)) {
            addSemicolon(place);
        }
        addToken(kind, place, bits, textStart, textSize);
        return kind != END && kind != BAD;
    }

    private int takeToken() {
        int first = tapeByte(at);
        if (first == NONE) {
            return END;
        }
        if (isLetter(first)) {
            return takeWord();
        }
        if (isDecimalDigit(first)) {
            return takeDigits(10);
        }
        if (first == '#') {
            return takeNumberInBase();
        }
        if (first == '\'') {
            return takeCharacter();
        }
        return first == '"' ? takeString() : takeSign();
    }

    private int takeWord() {
        int end = at;
        while (end < tapeSize && isNameByte(tapeByte(end))) {
            end++;
        }
        int size = end - at;
        if (size > NAME_LIMIT) {
            return BAD;
        }
        int kind = isKeyword(at, size) ? KEYWORD : NAME;
        takeText(size);
        return kind;
    }

    private int takeSign() {
        for (int size = LONGEST_SIGN; size > 0; size--) {
            if (size <= tapeSize - at && numberInList(SIGNS, tape, at, size) != NONE) {
                takeText(size);
                return SIGN;
            }
        }
        return BAD;
    }

    private int takeNumberInBase() {
        at++;
        if (tapeByte(at) != 'X') {
            return takeDigits(8);
        }
        at++;
        return takeDigits(16);
    }

    private int takeDigits(int base) {
        int start = at;
        long number = 0;
        for (; at < tapeSize; at++) {
            int digit = digitOf(tapeByte(at));
            if (digit == NONE || digit >= base) {
                break;
            }
            // The limit stands for all that is above it, so that many digits cannot wrap around.
            number = Math.min(number * base + digit, NUMBER_LIMIT);
        }
        if (at == start || number >= NUMBER_LIMIT) {
            return BAD;
        }
        bits = (int) number;
        return NUMBER;
    }

    private int takeCharacter() {
        at++;
        int meant = takeMeantByte('\'');
        if (meant == NONE || tapeByte(at) != '\'') {
            return BAD;
        }
        at++;
        bits = meant;
        return NUMBER;
    }

    private int takeString() {
        at++;
        for (int size = 0; size <= STRING_LIMIT; size++) {
            if (tapeByte(at) == '"') {
                at++;
                return STRING;
            }
            int meant = takeMeantByte('"');
            if (meant == NONE) {
                return BAD;
            }
            appendText(meant);
        }
        return BAD;
    }

    private int takeMeantByte(int quote) {
        int first = tapeByte(at);
        if (first == '*') {
            int meant = meaningBehindStar(tapeByte(at + 1));
            at += 2;
            return meant;
        }
        at++;
        return first >= 32 && first <= 126 && first != quote ? first : NONE;
    }

    private static int meaningBehindStar(int sign) {
        switch (sign) {
            case 'N':
                return 10;
            case 'S':
                return 32;
            case 'T':
                return 9;
            case '\'':
            case '"':
            case '*':
                return sign;
            default:
                return NONE;
        }
    }

    private void takeText(int size) {
        for (int i = 0; i < size; i++) {
            appendText(tapeByte(at));
            at++;
        }
    }

    private void appendText(int one) {
        if (textEnd >= 0 && textEnd < text.length) {
            text[textEnd] = one;
            textEnd++;
        }
    }

    private static boolean isLetter(int one) {
        return one >= 'a' && one <= 'z' || one >= 'A' && one <= 'Z';
    }

    private static boolean isDecimalDigit(int one) {
        return one >= '0' && one <= '9';
    }

    private static boolean isNameByte(int one) {
        return isLetter(one) || isDecimalDigit(one) || one == '.' || one == '_';
    }

    private static int digitOf(int one) {
        if (isDecimalDigit(one)) {
            return one - '0';
        }
        return one >= 'A' && one <= 'F' ? one - 'A' + 10 : NONE;
    }

    private boolean isKeyword(int place, int size) {
        return numberInList(ENDING_AND_BEGINNING_WORDS, tape, place, size) != NONE
            || numberInList(BEGINNING_WORDS, tape, place, size) != NONE
            || numberInList(OTHER_WORDS, tape, place, size) != NONE;
    }

    /** Which word of the list the row's bytes from start on are, counted from 0; NONE if none. */
    private static int numberInList(String list, int[] row, int start, int size) {
        int number = 0;
        int same = 0;
        for (int i = 0; i < list.length(); i++) {
            char one = list.charAt(i);
            if (one == ' ') {
                if (same == size) {
                    return number;
                }
                number++;
                same = 0;
            } else if (same >= 0 && same < size && elementAt(row, start + same) == one) {
                same++;
            } else {
                same = NONE;
            }
        }
        return NONE;
    }

    /** The token asked about is the one that was taken, not yet a token of the row. */
    private boolean isSemicolonDue(int kind, int start, int size) {
        int last = count - 1;
        return isToken(last) && lines[last] < atLine
            && mayEndStatement(kinds[last], textStarts[last], textSizes[last])
            && mayBeginStatement(kind, start, size);
    }

    private boolean mayEndStatement(int kind, int start, int size) {
        if (!isSignOrKeyword(kind)) {
            return isOperand(kind);
        }
        return numberInList(ENDING_SIGNS, text, start, size) != NONE
            || numberInList(ENDING_AND_BEGINNING_WORDS, text, start, size) != NONE;
    }

    private boolean mayBeginStatement(int kind, int start, int size) {
        if (!isSignOrKeyword(kind)) {
            return isOperand(kind);
        }
        return numberInList(BEGINNING_SIGNS, text, start, size) != NONE
            || numberInList(ENDING_AND_BEGINNING_WORDS, text, start, size) != NONE
            || numberInList(BEGINNING_WORDS, text, start, size) != NONE;
    }

    private static boolean isOperand(int kind) {
        return kind == NAME || kind == NUMBER || kind == STRING;
    }

    private static boolean isSignOrKeyword(int kind) {
        return kind == SIGN || kind == KEYWORD;
    }

    private boolean isToken(int k) {
        return k >= 0 && k < count && k < TOKEN_LIMIT;
    }

    private void addSemicolon(int place) {
        int start = textEnd;
        appendText(';');
        addToken(SIGN, place, 0, start, textEnd - start);
    }

    private void addToken(int kind, int place, int value, int textStart, int textSize) {
        if (count < 0 || count >= TOKEN_LIMIT) {
            return;
        }
        kinds[count] = kind;
        places[count] = place;
        lines[count] = atLine;
        values[count] = value;
        textStarts[count] = textStart;
        textSizes[count] = textSize;
        count++;
    }
}
