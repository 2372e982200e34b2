/** Promises 2 to 4: the text buffer, reading a board, and where the error is. */
public final class TextTest {
    private static final int SYNTAX = RingStones.SYNTAX_ERROR;
    private static final int VALUE = RingStones.VALUE_ERROR;

    public static void main(String[] args) {
        promise2Append();
        promise2BytesInOrder();
        promise3LoadReplaces();
        promise3LoadKeepsTheBoardBehindAnError();
        promise3TextsThatAreRead();
        promise3LengthOutOfRange();
        promise4SyntaxErrors();
        promise4ValueErrors();
        promise4ErrorPosition();
        Due.end();
    }

    private static void promise2Append() {
        RingStones x = new RingStones();
        for (int length = 20; length <= 300; length += 20) {
            Due.gives("append", length, () -> x.append(-1, 0, 1, Integer.MIN_VALUE, Integer.MAX_VALUE));
        }
        Due.throwsJust("append behind 300 bytes", IllegalStateException.class, () -> x.append(0, 0, 0, 0, 0));
        Due.gives("load of all 300 bytes", SYNTAX, () -> x.load(300));
        Due.gives("append to the emptied buffer", 20, () -> x.append(0, 0, 0, 0, 0));
    }

    private static void promise2BytesInOrder() {
        RingStones x = new RingStones();
        Due.gives("append", 20, () -> x.append(0x626f6172, 0x64203120, 0x333b726f, 0x77206277, 0x6f3b2020));
        Due.gives("load of board 1 3;row bwo;", 2, () -> x.load(18));
        Due.gives("stone(0)", 1, () -> x.stone(0));
        Due.gives("stone(1)", 2, () -> x.stone(1));
        Due.gives("stone(2)", 0, () -> x.stone(2));
        String spaces = " ".repeat(280);
        RingStones full = new RingStones();
        Due.gives("a text of 300 bytes", 1, () -> Due.load(full, spaces + "board 1 3;row bo" + "o;  "));
    }

    private static void promise3LoadReplaces() {
        RingStones x = Due.board("board 3 6; rule 1; bonus 9; turn white; row obwooo; row bwowoo; row obwooo;");
        x.setTurn(1);
        x.play(8);
        x.save(1);
        x.pass();
        x.pass();
        Due.gives("load", 3, () -> Due.load(x, "board 2 4; row obbo; row owoo;"));
        int[] want = {2, 4, 2, 1, 1, 0, 0, 0, 0, -1, 0, 0};
        for (int what = 0; what < 12; what++) {
            int number = what;
            Due.gives("count(" + what + ") behind load", want[what], () -> x.count(number));
        }
        Due.gives("the slot stays", 7, () -> x.restore(1));
        Due.gives("the ban comes back", 7, () -> x.count(9));
        Due.gives("the text is the first bytes alone", 0, () -> {
            Due.append(x, "board 1 3; row ooo;row bbb;");
            return x.load(19);
        });
        Due.throwsJust("the buffer is empty behind load", IllegalArgumentException.class, () -> x.load(1));
    }

    private static void promise3LoadKeepsTheBoardBehindAnError() {
        RingStones x = Due.board("board 3 6; row obwooo; row bwowoo; row obwooo;");
        x.play(8);
        String before = Due.state(x);
        String[] faulty = {"board 2 4; rule 1; bonus 7; turn white; row wwww; row oo", "board 2 4; row wwww; row wwww;",
            "board 1 3; row oob; row", "board 9 9;"};
        for (String text : faulty) {
            Due.holds(text + " has an error", Due.load(x, text) < 0);
            Due.gives("the board behind " + text, before, () -> Due.state(x));
            Due.throwsJust("the buffer is empty behind " + text, IllegalArgumentException.class, () -> x.load(1));
        }
        Due.gives("one change alone can be undone besides", 1, x::undo);
    }

    private static void promise3TextsThatAreRead() {
        String[] texts = {"board 1 3;row oow;", "board1 3;row oow;", "  board  1   3  ;  row  oow  ;  ",
            "board 01 0000000000000000000003;row oow;", "board 1 3;rule0;bonus0;turn white;row oow;",
            "board 1 3;turn black ;turn white;rule 1;rule 00;bonus 99;bonus 000;row oow;"};
        for (String text : texts) {
            RingStones x = new RingStones();
            Due.gives("load of " + text, 1, () -> Due.load(x, text));
            Due.gives("no error in " + text, -1, x::errorPosition);
            Due.gives("rule, bonus and stone of " + text, "0 0 2", () -> x.count(10) + " " + x.count(11) + " " + x.stone(2));
            Due.gives("turn of " + text, text.contains("white") ? 2 : 1, () -> x.count(4));
        }
        RingStones x = Due.board("board 2 12; turn white; bonus 99; rule 1; turn black; row boooooooooow; row bbbbbbbbbwob;");
        Due.gives("what the options set", "1 1 99", () -> x.count(4) + " " + x.count(10) + " " + x.count(11));
        Due.gives("a chain over the end of a ring", 11, () -> x.chain(13, 1));
    }

    private static void promise3LengthOutOfRange() {
        RingStones x = new RingStones();
        Due.throwsJust("load(1) of nothing", IllegalArgumentException.class, () -> x.load(1));
        Due.append(x, "board 1 3;row bwo;");
        for (int length : new int[] {-1, 21, Integer.MIN_VALUE, Integer.MAX_VALUE}) {
            Due.throwsJust("load(" + length + ")", IllegalArgumentException.class, () -> x.load(length));
        }
        Due.gives("the buffer stays behind an exception", 2, () -> x.load(20));
    }

    private static void faulty(String text, int code, int position) {
        RingStones x = new RingStones();
        Due.gives("load of " + text, code, () -> Due.load(x, text));
        Due.gives("errorPosition() behind " + text, position, x::errorPosition);
    }

    private static void promise4SyntaxErrors() {
        faulty("", SYNTAX, 0);
        faulty("   ", SYNTAX, 3);
        faulty(" Board 1 3;row ooo;", SYNTAX, 1);
        faulty("boar", SYNTAX, 0);
        faulty("boards 1 3;row ooo;", SYNTAX, 0);
        faulty("hoard 1 3;row ooo;", SYNTAX, 0);
        faulty("board 1 3;mow ooo;", SYNTAX, 10);
        faulty("board 1 3;turn slack;row ooo;", SYNTAX, 15);
        faulty("board", SYNTAX, 5);
        faulty("board ;", SYNTAX, 6);
        faulty("board 1", SYNTAX, 7);
        faulty("board 1 ", SYNTAX, 8);
        faulty("board 1 -3;", SYNTAX, 8);
        faulty("board 1 3", SYNTAX, 9);
        faulty("board 1 3:", SYNTAX, 9);
        faulty("board 1 3 4;", SYNTAX, 10);
        faulty("board 1 3;", SYNTAX, 10);
        faulty("board 1 3;;row ooo;", SYNTAX, 10);
        faulty("board 1 3; rules 1;row ooo;", SYNTAX, 11);
        faulty("board 1 3; rule;row ooo;", SYNTAX, 15);
        faulty("board 1 3; rule 1 row ooo;", SYNTAX, 18);
        faulty("board 1 3; bonus -1;row ooo;", SYNTAX, 17);
        faulty("board 1 3; turn;row ooo;", SYNTAX, 15);
        faulty("board 1 3; turn red;row ooo;", SYNTAX, 16);
        faulty("board 1 3; turn blacks;row ooo;", SYNTAX, 16);
        faulty("board 1 3; turnwhite;row ooo;", SYNTAX, 11);
        faulty("board 1 3; turn white", SYNTAX, 21);
        faulty("board 1 3;rowooo;", SYNTAX, 10);
        faulty("board 1 3;row", SYNTAX, 13);
        faulty("board 1 3;row ;", SYNTAX, 14);
        faulty("board 1 3;row 000;", SYNTAX, 14);
        faulty("board 1 3;row OOO;", SYNTAX, 14);
        faulty("board 1 3;row ooo", SYNTAX, 17);
        faulty("board 1 3;row ooo  ", SYNTAX, 19);
        faulty("board 1 3;row ooo1;", SYNTAX, 17);
        faulty("board 1 3;row ooo o;", SYNTAX, 18);
        faulty("board 2 3;row ooo;", SYNTAX, 18);
        faulty("board 2 3;row ooo; rule 1;row ooo;", SYNTAX, 19);
        faulty("board 1 3;row ooo; row ooo;", SYNTAX, 19);
        faulty("board 1 3;row ooo; row", SYNTAX, 19);
        faulty("board 1 3;row ooo;x", SYNTAX, 18);
        faulty("board 1 3;row ooo;\n", SYNTAX, 18);
        faulty("board 1\t3;row ooo;", SYNTAX, 7);
        faulty("board 1 3;row ooo;\u00e2", SYNTAX, 18);
        faulty("board 1 3;row \u00e2oo;", SYNTAX, 14);
        faulty("board 1 3;row bbb; ;", SYNTAX, 19);
        faulty("board 1 3;row oo`;", VALUE, 14);
        faulty("board 1 3;row ooo{;", SYNTAX, 17);
        faulty("board 1 3/;row ooo;", SYNTAX, 9);
    }

    private static void promise4ValueErrors() {
        faulty("board 0 3;row ooo;", VALUE, 6);
        faulty("board 6 3;row ooo;", VALUE, 6);
        faulty("board  18446744073709551617 3;row ooo;", VALUE, 7);
        faulty("board 4294967297 3;row ooo;", VALUE, 6);
        faulty("board 1 2;row oo;", VALUE, 8);
        faulty("board 1 13;row ooo;", VALUE, 8);
        faulty("board 1 13", VALUE, 8);
        faulty("board 0", VALUE, 6);
        faulty("board 1 3; rule 2;row ooo;", VALUE, 16);
        faulty("board 1 3; bonus 100;row ooo;", VALUE, 17);
        faulty("board 1 3; bonus 100; bonus 1;row ooo;", VALUE, 17);
        faulty("board 1 3;row oo;", VALUE, 14);
        faulty("board 1 3;row oooo;", VALUE, 14);
        faulty("board 1 3;row oxo;", VALUE, 14);
        faulty("board 1 3;row ooa", VALUE, 14);
        faulty("board 1 3;row oooz;", VALUE, 14);
        faulty("board 1 3;row oooa;", VALUE, 14);
        faulty("board 1 3;row row;", VALUE, 14);
        faulty("board 2 3;row ooo;row oooo;", VALUE, 22);
        faulty("board 1 3;row bbb;", VALUE, 18);
        faulty("board 1 3;row bwb;  ", VALUE, 20);
        faulty("board 2 4;row bwbo;row oboo;", VALUE, 28);
        faulty("board 2 4;row wbwo;row owoo;", VALUE, 28);
    }

    private static void promise4ErrorPosition() {
        RingStones x = new RingStones();
        Due.gives("errorPosition() at first", -1, x::errorPosition);
        Due.load(x, "board 1 3;row ooo;x");
        Due.gives("errorPosition()", 18, x::errorPosition);
        Due.throwsJust("load(-1)", IllegalArgumentException.class, () -> x.load(-1));
        x.play(0);
        x.undo();
        Due.gives("errorPosition() stays behind other calls", 18, x::errorPosition);
        Due.load(x, "board 1 3;row ooo;");
        Due.gives("errorPosition() behind a text without an error", -1, x::errorPosition);
        Due.load(x, "board 1 3 row ooo;");
        x.undo();
        Due.gives("undo does not touch the position of the error", 10, x::errorPosition);
    }
}
