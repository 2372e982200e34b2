import java.util.NoSuchElementException;

/** Promises 27 to 29: living chains, and chains that can be caught. */
public final class LifeTest {
    private static final Class<IndexOutOfBoundsException> INDEX = IndexOutOfBoundsException.class;
    private static final Class<IllegalArgumentException> ARGUMENT = IllegalArgumentException.class;

    public static void main(String[] args) {
        promise27IsAlive();
        promise27LeftOutAgainAndAgain();
        promise28Alive();
        promise29CaughtBy();
        promise29Depths();
        promise29StonesAlone();
        promise29WrongInputs();
        Due.end();
    }

    private static RingStones wheel() {
        return Due.board("board 2 12; row bbobbobbobbo; row oooooooooooo;");
    }

    private static void promise27IsAlive() {
        RingStones x = Due.board("board 2 6; row bobobw; row bbbbbo;");
        Due.gives("two eyes", "true true true", () -> x.isAlive(0) + " " + x.isAlive(4) + " " + x.isAlive(10));
        Due.gives("empty places", "false false", () -> x.isAlive(1) + " " + x.isAlive(3));
        Due.gives("the other colour", false, () -> x.isAlive(5));
        RingStones one = Due.board("board 2 6; row boboow; row bbbwww;");
        Due.gives("one eye", false, () -> one.isAlive(0));
        RingStones together = Due.board("board 1 6; row bobobo;");
        Due.gives("three chains around three eyes", "true true true",
            () -> together.isAlive(0) + " " + together.isAlive(2) + " " + together.isAlive(4));
        RingStones stones = Due.board("board 2 4; row bobo; row bbbb;");
        Due.gives("regions of one place", true, () -> stones.isAlive(0));
        Due.throwsJust("isAlive(8)", INDEX, () -> stones.isAlive(8));
        Due.throwsJust("isAlive(-1)", INDEX, () -> stones.isAlive(-1));
        RingStones empty = new RingStones();
        Due.gives("an empty board", false, () -> empty.isAlive(0));
    }

    private static void promise27LeftOutAgainAndAgain() {
        RingStones ring = wheel();
        Due.gives("the eyes are no regions of their own", false, () -> ring.isAlive(0));
        RingStones row = Due.board("board 1 12; row obobobobowwo;");
        Due.gives("a row of chains falls from its ends", "false false false false",
            () -> row.isAlive(1) + " " + row.isAlive(3) + " " + row.isAlive(5) + " " + row.isAlive(7));
        Due.gives("two regions are vital to the chains in the middle", "2 2", () -> row.chain(3, 4) + " " + row.chain(5, 4));
        RingStones mixed = Due.board("board 3 8; row obobobww; row wbbbbbwo; row owwwwbob;");
        Due.gives("a living chain beside one that is left out", "true false",
            () -> mixed.isAlive(1) + " " + mixed.isAlive(23));
        Due.gives("the regions vital to them", "2 0", () -> mixed.chain(1, 4) + " " + mixed.chain(23, 4));
    }

    private static void promise28Alive() {
        RingStones x = Due.board("board 1 12; row bobobobobobo;");
        Due.gives("alive(1)", 6, () -> x.alive(1));
        Due.gives("alive(2)", 0, () -> x.alive(2));
        RingStones some = Due.board("board 4 6; row bobobo; row bbbbbb; row ooowow; row owoooo;");
        Due.gives("alive(1) counts all stones of the chain", 9, () -> some.alive(1));
        Due.gives("alive(2)", 0, () -> some.alive(2));
        RingStones white = Due.board("board 2 6; row wowoow; row wwwobw;");
        Due.gives("alive(2) with a black stone in a region", 7, () -> white.alive(2));
        RingStones both = Due.board("board 5 6; row bobobo; row bbbbbb; row oooooo; row wwwwww; row wowowo;");
        Due.gives("alive(1)", 9, () -> both.alive(1));
        Due.gives("alive(2)", 9, () -> both.alive(2));
        RingStones first = Due.board("board 1 3; row boo;");
        Due.gives("alive(1) of a stone on place 0", 0, () -> first.alive(1));
        for (int colour : new int[] {0, 3, -1}) {
            Due.throwsJust("alive(" + colour + ")", ARGUMENT, () -> x.alive(colour));
        }
    }

    private static void caught(String rows, int place, int want) {
        RingStones x = Due.board(rows);
        Due.gives("caughtBy(" + place + ") on " + rows, want, () -> x.caughtBy(place));
    }

    private static void promise29CaughtBy() {
        caught("board 1 3; row bwo;", 0, 1);
        caught("board 1 3; row bwo;", 1, 1);
        caught("board 1 4; row boow;", 0, 1);
        caught("board 1 5; row boooo;", 0, 2);
        caught("board 2 6; row bobobo; row bbbbbb;", 0, -1);
        caught("board 3 3; row ooo; row bbb; row ooo;", 3, -1);
        // Behind white's stone on 1, black's only way on 3 takes two stones; white comes back on 1 and once more.
        caught("board 1 4; row bowo;", 0, 3);
        // White can come to neither eye.
        caught("board 2 4; row bobo; row bbbb;", 0, -1);
    }

    private static void promise29Depths() {
        caught("board 2 5;row bwooo;row obboo;", 0, 4);
        caught("board 2 6;row oooowb;row woooow;", 4, 5);
        caught("board 2 7;row booooow;row wwooooo;", 6, 6);
        caught("board 3 6;row woowoo;row wooboo;row oowooo;", 3, 7);
        caught("board 3 7;row obbbboo;row obwoooo;row ooboooo;", 16, 8);
        caught("board 4 6;row owowow;row oooooo;row ooooow;row owbobo;", 19, 8);
        caught("board 5 5;row ooowo;row ooobb;row ooooo;row oooob;row wwboo;", 22, -1);
        caught("board 4 8;row bwoooooo;row oobooooo;row ooowoobo;row ooooobbo;", 0, -1);
    }

    private static void promise29StonesAlone() {
        RingStones x = Due.board("board 2 5; rule 1; row bwooo; row obboo;");
        x.pass();
        x.pass();
        String before = Due.state(x);
        Due.gives("the end of the game does not matter", 4, () -> x.caughtBy(0));
        Due.gives("nothing changes", before, () -> Due.state(x));
        RingStones banned = Due.board("board 3 6; row obwooo; row bwowoo; row obwooo;");
        banned.play(8);
        Due.gives("a ban does not matter", 1, () -> banned.caughtBy(8));
        banned.pass();
        banned.setRule(1);
        Due.gives("a repetition does not matter", 1, () -> banned.caughtBy(8));
    }

    private static void promise29WrongInputs() {
        RingStones x = new RingStones();
        Due.throwsJust("caughtBy(0) on an empty place", NoSuchElementException.class, () -> x.caughtBy(0));
        Due.throwsJust("caughtBy(3)", INDEX, () -> x.caughtBy(3));
        Due.throwsJust("caughtBy(-1)", INDEX, () -> x.caughtBy(-1));
    }
}
