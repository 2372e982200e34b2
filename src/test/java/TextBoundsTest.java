/** Section 7 and promises 2 to 4 and 33: a test of its own for each sentence of the document that names a boundary case. */
public final class TextBoundsTest {
    private static final Class<IllegalArgumentException> ARGUMENT = IllegalArgumentException.class;
    private static final Class<IllegalStateException> STATE = IllegalStateException.class;
    private static final Class<IndexOutOfBoundsException> INDEX = IndexOutOfBoundsException.class;
    private static final int SYNTAX = RingStones.SYNTAX_ERROR;
    private static final int VALUE = RingStones.VALUE_ERROR;
    /** A text without an error, token by token. */
    private static final String[] TOKENS = {"board", "2", "3", ";", "rule", "1", ";", "bonus", "42", ";", "turn", "white",
        ";", "row", "bwo", ";", "row", "owo", ";"};

    public static void main(String[] args) {
        bytesOfAnAppend();
        threeHundredBytes();
        lengthsOfTheBuffer();
        bufferEmptyBehindLoad();
        textOfAtMost300Bytes();
        anyNumberOfOptions();
        lastOptionOfAKind();
        withoutOptions();
        longestWord();
        longestNumber();
        spacesInFrontOfEveryToken();
        noOtherSpaces();
        nothingOfAText();
        unexpectedEnd();
        tokensNotAllowedHere();
        firstByteOfAWord();
        bytesOfNoToken();
        rowTooMany();
        rowTooFew();
        ringsOutOfRange();
        sectorsOutOfRange();
        rulesOutOfRange();
        bonusOutOfRange();
        numbersBeyondAnInt();
        lettersOfAnotherLength();
        lettersOfOtherLetters();
        chainWithoutAFreedom();
        chainIfThereIsNoOtherError();
        severalCodesAtOnePosition();
        firstErrorStops();
        loadsAnswer();
        loadReplacesTheBoard();
        presentBoardStays();
        positionOfTheLatestCall();
        writtenLettersAndLength();
        noSuchRing();
        noSuchByte();
        Due.end();
    }

    private static void read(String text, int want) {
        RingStones x = new RingStones();
        Due.gives("load of " + text, want, () -> Due.load(x, text));
        Due.gives("errorPosition() behind " + text, -1, x::errorPosition);
    }

    private static void faulty(String text, int code, int position) {
        RingStones x = new RingStones();
        Due.gives("load of " + text, code, () -> Due.load(x, text));
        Due.gives("errorPosition() behind " + text, position, x::errorPosition);
    }

    /** The tokens from one to the one before another, with a space in front of each where words would join. */
    private static String joined(int from, int to) {
        StringBuilder text = new StringBuilder();
        for (int i = from; i < to; i++) {
            text.append(TOKENS[i].equals(";") || i == 0 ? "" : " ").append(TOKENS[i]);
        }
        return text.toString();
    }

    // ---- the buffer

    private static void bytesOfAnAppend() {
        Due.sentence("the four bytes of each argument in order, the most significant byte first");
        RingStones x = new RingStones();
        Due.gives("append", 20, () -> x.append(0x20202020, 0x20202020, 0x20202020, 0x20202020, 0x202020ff));
        Due.gives("the last byte alone is none of the grammar", "-2 19", () -> x.load(20) + " " + x.errorPosition());
        for (int i = 0; i < 20; i++) {
            int at = i;
            int[] four = new int[5];
            java.util.Arrays.fill(four, 0x20202020);
            four[at / 4] |= 0x80 << 24 - 8 * (at % 4);
            x.append(four[0], four[1], four[2], four[3], four[4]);
            Due.gives("byte " + at, "-2 " + at, () -> x.load(20) + " " + x.errorPosition());
        }
    }

    private static void threeHundredBytes() {
        Due.sentence("Returns the new length of the buffer; IllegalStateException if the length would exceed 300");
        RingStones x = new RingStones();
        for (int length = 20; length <= 300; length += 20) {
            Due.gives("append", length, () -> x.append(0x20202020, 0x20202020, 0x20202020, 0x20202020, 0x20202020));
        }
        Due.throwsJust("append to 300 bytes", STATE, () -> x.append(1, 1, 1, 1, 1));
        Due.throwsJust("append to 300 bytes again", STATE, () -> x.append(1, 1, 1, 1, 1));
        Due.gives("all are spaces still", "-2 300", () -> x.load(300) + " " + x.errorPosition());
        Due.gives("append to the emptied buffer", 20, () -> x.append(1, 1, 1, 1, 1));
    }

    private static void lengthsOfTheBuffer() {
        Due.sentence("length: number of bytes, 0 to the length of the buffer");
        RingStones x = new RingStones();
        Due.throwsJust("1 of 0", ARGUMENT, () -> x.load(1));
        Due.throwsJust("-1 of 0", ARGUMENT, () -> x.load(-1));
        Due.gives("0 of 0", SYNTAX, () -> x.load(0));
        Due.append(x, "board 1 3; row bwo; ");
        Due.throwsJust("21 of 20", ARGUMENT, () -> x.load(21));
        Due.throwsJust("-1 of 20", ARGUMENT, () -> x.load(-1));
        Due.throwsJust("the least", ARGUMENT, () -> x.load(Integer.MIN_VALUE));
        Due.throwsJust("the most", ARGUMENT, () -> x.load(Integer.MAX_VALUE));
        Due.gives("20 of 20, though other calls were refused", 2, () -> x.load(20));
    }

    private static void bufferEmptyBehindLoad() {
        Due.sentence("The buffer is empty afterwards in both cases");
        RingStones x = new RingStones();
        Due.append(x, "board 1 3; row bwo; board 1 3; row bwo; ");
        Due.gives("the first bytes", 2, () -> x.load(19));
        Due.throwsJust("behind a board", ARGUMENT, () -> x.load(1));
        Due.append(x, "board 1 3; row bwo; ");
        Due.gives("no byte of 20", "-2 0", () -> x.load(0) + " " + x.errorPosition());
        Due.throwsJust("behind an error", ARGUMENT, () -> x.load(1));
        Due.gives("append", 20, () -> x.append(0, 0, 0, 0, 0));
    }

    private static void textOfAtMost300Bytes() {
        Due.sentence("A board is read from a text of at most 300 bytes");
        String board = Due.text(5, 12, "b".repeat(59) + "o");
        read(board + " ".repeat(300 - board.length()), 59);
        read(" ".repeat(300 - board.length()) + board, 59);
        faulty(" ".repeat(299) + "b", SYNTAX, 299);
        faulty(board + " ".repeat(299 - board.length()) + "x", SYNTAX, 299);
        faulty(" ".repeat(300), SYNTAX, 300);
        String stuck = Due.text(5, 12, "b".repeat(60));
        faulty(stuck + " ".repeat(300 - stuck.length()), VALUE, 300);
    }

    // ---- the grammar

    private static void anyNumberOfOptions() {
        Due.sentence("Braces mean any number of repetitions");
        read("board 1 3;row bwo;", 2);
        read("board 1 3;rule 1;row bwo;", 2);
        read("board 1 3;" + "rule 1;".repeat(39) + "row bwo;", 2);
        read("board 1 3;" + "turn black;bonus 1;".repeat(14) + "row bwo;", 2);
    }

    private static void options(String text, int rule, int bonus, int turn) {
        RingStones x = new RingStones();
        Due.gives("load of " + text, 2, () -> Due.load(x, text));
        Due.gives("rule, bonus, turn of " + text, rule + " " + bonus + " " + turn,
            () -> x.count(10) + " " + x.count(11) + " " + x.count(4));
    }

    private static void lastOptionOfAKind() {
        Due.sentence("Of several options of a kind the last one counts");
        options("board 1 3;rule 1;rule 0;row bwo;", 0, 0, 1);
        options("board 1 3;rule 0;rule 1;row bwo;", 1, 0, 1);
        options("board 1 3;bonus 99;bonus 0;row bwo;", 0, 0, 1);
        options("board 1 3;bonus 1;rule 1;bonus 99;row bwo;", 1, 99, 1);
        options("board 1 3;turn white;turn black;row bwo;", 0, 0, 1);
        options("board 1 3;turn black;bonus 5;turn white;row bwo;", 0, 5, 2);
    }

    private static void withoutOptions() {
        Due.sentence("of rule 0 or 1 (0 without it); of bonus 0 to 99 (0 without it). Without turn it is the turn of black");
        RingStones x = Due.board("board 1 3;rule 1;bonus 99;turn white;row bwo;");
        Due.gives("with all", "1 99 2", () -> x.count(10) + " " + x.count(11) + " " + x.count(4));
        Due.gives("load", 2, () -> Due.load(x, "board 1 3;row bwo;"));
        Due.gives("without them, whatever was before", "0 0 1", () -> x.count(10) + " " + x.count(11) + " " + x.count(4));
        Due.load(x, "board 1 3;rule 1;bonus 9;turn white;row bwo");
        Due.gives("load behind a text with an error", 2, () -> Due.load(x, "board 1 3;row bwo;"));
        Due.gives("without them", "0 0 1", () -> x.count(10) + " " + x.count(11) + " " + x.count(4));
    }

    private static void longestWord() {
        Due.sentence("A word is the longest possible sequence of the letters a to z");
        faulty("boardrow 1 3;row bwo;", SYNTAX, 0);
        faulty("board 1 3;rulea 1;row bwo;", SYNTAX, 10);
        faulty("board 1 3;turnblack;row bwo;", SYNTAX, 10);
        faulty("board 1 3;turn blackz;row bwo;", SYNTAX, 15);
        faulty("board 1 3;turn whit;row bwo;", SYNTAX, 15);
        faulty("board 1 3;rowbwo;", SYNTAX, 10);
        faulty("board 1 3;row bwoz;", VALUE, 14);
        read("board1 3;row bwo;", 2);
        read("board 1 3;rule0;bonus00;row bwo;", 2);
    }

    private static void longestNumber() {
        Due.sentence("N is the longest possible sequence of digits");
        faulty("board 13;row bwo;", VALUE, 6);
        faulty("board 1 33;row bwo;", VALUE, 8);
        faulty("board 1 3;rule 01;row bb;", VALUE, 22);
        faulty("board 1 3;rule 10;row bwo;", VALUE, 15);
        faulty("board 1 3;rule 0 1;row bwo;", SYNTAX, 17);
        read("board 1 003;row bwo;", 2);
        read("board " + "0".repeat(270) + "1 3;row bwo;", 2);
        options("board 1 3;rule 01;bonus 0099;row bwo;", 1, 99, 1);
    }

    private static void spacesInFrontOfEveryToken() {
        Due.sentence("Spaces (byte 32) may stand in front of every token and at the end of the text");
        for (int i = 0; i <= TOKENS.length; i++) {
            read(joined(0, i) + "   " + joined(i, TOKENS.length), 3);
        }
        read("    " + String.join("    ", TOKENS) + "    ", 3);
        read("board2 3;rule1;bonus42;turn white;row bwo;row owo;", 3);
    }

    private static void noOtherSpaces() {
        Due.sentence("Spaces (byte 32) - no other byte is one");
        for (char other : new char[] {0, 9, 10, 13, 31, 33, 127, 128, 160, 255}) {
            for (int i = 0; i <= TOKENS.length; i++) {
                String before = joined(0, i);
                faulty(before + other + " " + joined(i, TOKENS.length), SYNTAX, before.length());
            }
        }
    }

    // ---- SYNTAX_ERROR

    private static void nothingOfAText() {
        Due.sentence("or an unexpected end of the text (at the length of the text) - an empty text");
        faulty("", SYNTAX, 0);
        faulty(" ", SYNTAX, 1);
    }

    private static void unexpectedEnd() {
        Due.sentence("or an unexpected end of the text (at the length of the text)");
        for (int i = 0; i < TOKENS.length; i++) {
            String text = joined(0, i);
            faulty(text, SYNTAX, text.length());
            faulty(text + "   ", SYNTAX, text.length() + 3);
        }
    }

    private static void tokensNotAllowedHere() {
        Due.sentence("SYNTAX_ERROR: a byte or token that is not allowed here (at its first byte)");
        for (String token : new String[] {";", "7", "board", "black", "?"}) {
            for (int i = 0; i <= TOKENS.length; i++) {
                if (fits(token, i)) {
                    continue;
                }
                String before = joined(0, i) + "  ";
                faulty(before + token + " " + joined(i, TOKENS.length), SYNTAX, before.length());
            }
        }
    }

    /** Whether a token may stand in place of that one, or is no error of the syntax there. */
    private static boolean fits(String token, int i) {
        String here = i < TOKENS.length ? TOKENS[i] : "";
        boolean letters = here.equals("bwo") || here.equals("owo");
        boolean number = Character.isDigit((here + " ").charAt(0));
        return token.equals(here) || token.equals("7") && number || letters && Character.isLetter(token.charAt(0))
            || token.equals("black") && here.equals("white");
    }

    private static void firstByteOfAWord() {
        Due.sentence("a token that is not allowed here (at its first byte)");
        faulty("boarb 1 3;row bwo;", SYNTAX, 0);
        faulty("hoard 1 3;row bwo;", SYNTAX, 0);
        faulty("board 1 3;turn slack;row bwo;", SYNTAX, 15);
        faulty("board 1 3;mow bwo;", SYNTAX, 10);
        faulty("board 1 3;bonuss 1;row bwo;", SYNTAX, 10);
        faulty("board 1 3;  turn  whitf;row bwo;", SYNTAX, 18);
        faulty("board 1 3;rox bwo;", SYNTAX, 10);
        faulty("board 1 3;row bwo;rule 1;", SYNTAX, 18);
        faulty("board 2 3;row bwo;turn white;row bwo;", SYNTAX, 18);
    }

    private static void bytesOfNoToken() {
        Due.sentence("a byte that is not allowed here: the letters a to z, digits, ; and spaces alone stand in a text");
        faulty("Board 1 3;row bwo;", SYNTAX, 0);
        faulty("board 1 3;row Bwo;", SYNTAX, 14);
        faulty("board 1 3;row bwoO;", SYNTAX, 17);
        faulty("board 1 3;row bWo;", VALUE, 14);
        faulty("board 1 3;row bwo`;", SYNTAX, 17);
        faulty("board 1 3;row bwo{;", SYNTAX, 17);
        faulty("board 1/ 3;row bwo;", SYNTAX, 7);
        faulty("board 1: 3;row bwo;", SYNTAX, 7);
        faulty("board -1 3;row bwo;", SYNTAX, 6);
        faulty("board 1 3;bonus +5;row bwo;", SYNTAX, 16);
        faulty("board 1 3;row \u00e2wo;", SYNTAX, 14);
        faulty("board 1 3\u00bbrow bwo;", SYNTAX, 9);
    }

    private static void rowTooMany() {
        Due.sentence("also a row too many, at the word row");
        for (int rings = 1; rings <= 5; rings++) {
            String text = Due.text(rings, 3, "o".repeat(3 * rings));
            read(text, 0);
            faulty(text + "row ooo;", SYNTAX, text.length());
            faulty(text + "  row", SYNTAX, text.length() + 2);
            faulty(text + " row ooooo;", SYNTAX, text.length() + 1);
        }
    }

    private static void rowTooFew() {
        Due.sentence("There are as many rows as rings, from ring 0 on");
        for (int rings = 2; rings <= 5; rings++) {
            String text = Due.text(rings, 3, "o".repeat(3 * rings)).replaceFirst("row ooo;", "");
            faulty(text, SYNTAX, text.length());
        }
        faulty("board 1 3;", SYNTAX, 10);
        RingStones x = Due.board("board 2 4; row bwoo; row ooob;");
        Due.gives("ring 0 first, sector 0 first", "1 2 1", () -> x.stone(0) + " " + x.stone(1) + " " + x.stone(7));
    }

    // ---- VALUE_ERROR

    private static void ringsOutOfRange() {
        Due.sentence("VALUE_ERROR: a number out of its range (at its first digit) - 1 to 5 rings");
        read(Due.text(1, 3, "ooo"), 0);
        read(Due.text(5, 3, "o".repeat(15)), 0);
        faulty("board 0 3;row ooo;", VALUE, 6);
        faulty("board  000 3;row ooo;", VALUE, 7);
        faulty(Due.text(6, 3, "o".repeat(18)), VALUE, 6);
        faulty("board 10 3;row ooo;", VALUE, 6);
    }

    private static void sectorsOutOfRange() {
        Due.sentence("VALUE_ERROR: a number out of its range (at its first digit) - 3 to 12 sectors");
        read(Due.text(1, 3, "ooo"), 0);
        read(Due.text(1, 12, "o".repeat(12)), 0);
        faulty("board 1 2;row oo;", VALUE, 8);
        faulty("board 1 0;row ;", VALUE, 8);
        faulty("board 1   013;row ooooooooooooo;", VALUE, 10);
    }

    private static void rulesOutOfRange() {
        Due.sentence("VALUE_ERROR: a number out of its range - of rule 0 or 1");
        options("board 1 3;rule 0;row bwo;", 0, 0, 1);
        options("board 1 3;rule 1;row bwo;", 1, 0, 1);
        faulty("board 1 3;rule 2;row bwo;", VALUE, 15);
        faulty("board 1 3;rule02;row bwo;", VALUE, 14);
    }

    private static void bonusOutOfRange() {
        Due.sentence("VALUE_ERROR: a number out of its range - of bonus 0 to 99");
        options("board 1 3;bonus 0;row bwo;", 0, 0, 1);
        options("board 1 3;bonus 99;row bwo;", 0, 99, 1);
        faulty("board 1 3;bonus 100;row bwo;", VALUE, 16);
        faulty("board 1 3;bonus 00100;row bwo;", VALUE, 16);
    }

    private static void numbersBeyondAnInt() {
        Due.sentence("a number out of its range (however many digits it has)");
        String[] numbers = {"2147483648", "2147483649", "4294967296", "4294967297", "4294967299", "18446744073709551616",
            "18446744073709551617", "1" + "0".repeat(230), "9".repeat(230)};
        for (String number : numbers) {
            faulty("board " + number + " 3;row ooo;", VALUE, 6);
            faulty("board 1 " + number + ";row ooo;", VALUE, 8);
            faulty("board 1 3;rule " + number + ";row ooo;", VALUE, 15);
            faulty("board 1 3;bonus " + number + ";row ooo;", VALUE, 16);
        }
    }

    private static void lettersOfAnotherLength() {
        Due.sentence("LETTERS of another length (at the first byte of the word)");
        for (int sectors = 3; sectors <= 12; sectors++) {
            String start = "board 2 " + sectors + ";row " + "o".repeat(sectors) + "; row  ";
            read(start + "o".repeat(sectors) + ";", 0);
            faulty(start + "o".repeat(sectors - 1) + ";", VALUE, start.length());
            faulty(start + "o".repeat(sectors + 1) + ";", VALUE, start.length());
            faulty(start + "o;", VALUE, start.length());
        }
        faulty("board 1 3;row " + "o".repeat(280) + ";", VALUE, 14);
    }

    private static void lettersOfOtherLetters() {
        Due.sentence("LETTERS with another letter (at the first byte of the word)");
        for (char letter = 'a'; letter <= 'z'; letter++) {
            if (letter != 'o' && letter != 'b' && letter != 'w') {
                faulty("board 1 3;row " + letter + "oo;", VALUE, 14);
                faulty("board 1 3;row oo" + letter + ";", VALUE, 14);
            }
        }
    }

    private static void chainWithoutAFreedom() {
        Due.sentence("a chain without a freedom (at the length of the text)");
        faulty("board 1 3;row bbb;", VALUE, 18);
        faulty("board 1 3;row www;   ", VALUE, 21);
        faulty("board 1 5;row bwboo;", VALUE, 20);
        faulty("board 1 4;row wbwo;", VALUE, 19);
        faulty("board 2 4;row wbwo;row owoo;", VALUE, 28);
        read("board 1 4;row bbow;", 3);
        String first = Due.text(5, 12, Due.put(Due.put("o".repeat(60), 'w', 0), 'b', 1, 11, 12));
        faulty(first, VALUE, first.length());
        String last = Due.text(5, 12, Due.put(Due.put("o".repeat(60), 'w', 59), 'b', 47, 48, 58));
        faulty(last, VALUE, last.length());
    }

    private static void chainIfThereIsNoOtherError() {
        Due.sentence("a chain without a freedom (at the length of the text, if there is no other error)");
        faulty("board 2 3;row bbb;row www;x", SYNTAX, 26);
        faulty("board 2 3;row bbb;row wwx;", VALUE, 22);
        faulty("board 2 3;row bbb;row wwww;", VALUE, 22);
        faulty("board 1 3;row bbb;row ooo;", SYNTAX, 18);
        faulty("board 2 3;row bbb;row www;", VALUE, 26);
    }

    private static void severalCodesAtOnePosition() {
        Due.sentence("If several error codes fit the same position, the first one in this list is reported");
        faulty("board 1 3;row bbb", SYNTAX, 17);
        faulty("board 1 3;row bbb  ", SYNTAX, 19);
        faulty("board 2 3;row bbb;row www", SYNTAX, 25);
    }

    private static void firstErrorStops() {
        Due.sentence("Reading stops at the first error");
        faulty("board 9 99;rule 9;row x", VALUE, 6);
        faulty("board 1 99 rule 9;row x", VALUE, 8);
        faulty("board 1 3 rule 9;row x", SYNTAX, 10);
        faulty("board 1 3;rule 9 bonus 100;row x", VALUE, 15);
        faulty("board 1 3;bonus 100;bonus 1;row bwo;", VALUE, 16);
        faulty("board 1 3;turn red;rule 2;row bwo;", SYNTAX, 15);
        faulty("board 2 3;row oox;row oo?;", VALUE, 14);
        faulty("board 1 99x", VALUE, 8);
        faulty("board 1 9x", SYNTAX, 9);
    }

    // ---- load, errorPosition, writeRing, writtenByte

    private static void loadsAnswer() {
        Due.sentence("Returns the number of stones, or the error code");
        read("board 1 3;row ooo;", 0);
        read("board 1 3;row owo;", 1);
        read(Due.text(5, 12, "w".repeat(59) + "o"), 59);
        faulty("board 1 3;row ooo", SYNTAX, 17);
        faulty("board 1 3;row oo;", VALUE, 14);
    }

    private static void loadReplacesTheBoard() {
        Due.sentence("it replaces the present one: no move has been made, nothing was captured, no place is banned");
        RingStones x = Due.board("board 1 7; rule 1; row bwowooo;");
        x.play(2);
        Due.gives("before", "1 1 1", () -> x.count(5) + " " + x.count(8) + " " + x.count(9));
        Due.gives("load", 3, () -> Due.load(x, "board 1 7; rule 1; turn white; row bobwooo;"));
        Due.gives("behind it", "0 0 0 -1", () -> x.count(5) + " " + x.count(7) + " " + x.count(8) + " " + x.count(9));
        Due.gives("neither a ban nor a repetition", 0, () -> x.reason(1, 2));
        Due.load(x, "board 1 3; turn white; row bbo;");
        x.play(2);
        Due.gives("captured black stones", 2, () -> x.count(7));
        x.pass();
        x.pass();
        Due.load(x, "board 1 3; row ooo;");
        Due.gives("captured black stones behind load", 0, () -> x.count(7));
        Due.gives("the game is not over", "0 0", () -> x.count(6) + " " + x.reason(0, 1));
    }

    private static void presentBoardStays() {
        Due.sentence("In case of an error the present board stays");
        RingStones x = Due.board("board 1 7; rule 1; row bwowooo;");
        x.play(2);
        String before = Due.state(x);
        String[] faulty = {"", "board 2 4;rule 0;bonus 5;turn white;row oooo;row ooo?", "board 1 3;row bbb;", "board 1 2;"};
        for (String text : faulty) {
            Due.holds("an error in " + text, Due.load(x, text) < 0);
            Due.gives("the board behind " + text, before, () -> Due.state(x));
        }
        Due.gives("a text with an error is no change", 1, x::undo);
    }

    private static void positionOfTheLatestCall() {
        Due.sentence("Returns the position; NONE if it found no error or if there was no call");
        RingStones x = new RingStones();
        Due.gives("no call", -1, x::errorPosition);
        Due.load(x, "");
        Due.gives("at 0", 0, x::errorPosition);
        Due.load(x, "board 1 3;row ooo;");
        Due.gives("no error", -1, x::errorPosition);
        Due.load(x, "board 1 3;row ooo;?");
        Due.load(x, "board 1 ?");
        Due.gives("the latest call", 8, x::errorPosition);
        Due.throwsJust("a refused call", ARGUMENT, () -> x.load(1));
        Due.gives("is none", 8, x::errorPosition);
    }

    private static void writtenLettersAndLength() {
        Due.sentence("Writes a ring, in place of what was written before: for each sector the letter o, b or w; a banned place is x");
        for (int sectors = 3; sectors <= 12; sectors++) {
            int length = sectors;
            String letters = "o".repeat(4 * sectors) + "b" + "o".repeat(sectors - 2) + "w";
            RingStones x = Due.board(Due.text(5, sectors, letters));
            Due.gives("length of ring 0", length, () -> x.writeRing(0));
            Due.gives("ring 0", "o".repeat(length), () -> Due.written(x));
            x.writeRing(4);
            Due.gives("ring 4", letters.substring(4 * length), () -> Due.written(x));
        }
        String[] rows = {"wowooob", "owooobw"};
        String[] want = {"xbwooob", "bwooobx"};
        for (int i = 0; i < 2; i++) {
            RingStones x = Due.board("board 1 7; row " + rows[i] + ";");
            x.play(i == 0 ? 1 : 0);
            x.writeRing(0);
            Due.gives("a ban on the first and the last place", want[i], () -> Due.written(x));
        }
    }

    private static void noSuchRing() {
        Due.sentence("writeRing: IndexOutOfBoundsException if there is no such ring");
        for (int rings = 1; rings <= 5; rings++) {
            int number = rings;
            RingStones x = Due.board(Due.text(rings, 3, "o".repeat(3 * rings)));
            Due.gives("the last ring", 3, () -> x.writeRing(number - 1));
            Due.throwsJust("writeRing(" + number + ")", INDEX, () -> x.writeRing(number));
            Due.throwsJust("writeRing(-1)", INDEX, () -> x.writeRing(-1));
            Due.throwsJust("the least", INDEX, () -> x.writeRing(Integer.MIN_VALUE));
            Due.throwsJust("the most", INDEX, () -> x.writeRing(Integer.MAX_VALUE));
        }
    }

    private static void noSuchByte() {
        Due.sentence("Returns a byte of the text that was written last; there is none at first; index: 0 for the first byte");
        RingStones x = Due.board("board 1 12; row boooooooooow;");
        Due.throwsJust("at first", INDEX, () -> x.writtenByte(0));
        x.writeRing(0);
        Due.gives("the first byte", (int) 'b', () -> x.writtenByte(0));
        Due.gives("the last byte", (int) 'w', () -> x.writtenByte(11));
        Due.throwsJust("the byte behind it", INDEX, () -> x.writtenByte(12));
        Due.throwsJust("byte -1", INDEX, () -> x.writtenByte(-1));
        Due.throwsJust("the least", INDEX, () -> x.writtenByte(Integer.MIN_VALUE));
        Due.throwsJust("the most", INDEX, () -> x.writtenByte(Integer.MAX_VALUE));
        Due.load(x, "board 1 3; row owo;");
        Due.gives("the text that was written last stays", "boooooooooow", () -> Due.written(x));
        x.writeRing(0);
        Due.gives("a shorter one", "owo", () -> Due.written(x));
        Due.throwsJust("a byte of the longer one", INDEX, () -> x.writtenByte(3));
    }
}
