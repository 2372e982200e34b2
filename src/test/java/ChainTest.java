import java.util.NoSuchElementException;

/** Promises 9 to 12: chains and their freedoms. */
public final class ChainTest {
    private static final Class<IndexOutOfBoundsException> INDEX = IndexOutOfBoundsException.class;
    private static final Class<IllegalArgumentException> ARGUMENT = IllegalArgumentException.class;

    public static void main(String[] args) {
        promise9Chain();
        promise9VitalRegions();
        promise10Freedom();
        promise11Chains();
        promise12Weakest();
        Due.end();
    }

    private static RingStones winding() {
        return Due.board("board 4 6; row bowoob; row bowwob; row ooowoo; row wwwwow;");
    }

    private static void numbers(RingStones x, int place, int... want) {
        for (int what = 0; what < want.length; what++) {
            int number = what;
            Due.gives("chain(" + place + ", " + what + ")", want[what], () -> x.chain(place, number));
        }
    }

    private static void promise9Chain() {
        RingStones x = winding();
        for (int place : new int[] {0, 5, 6, 11}) {
            numbers(x, place, 0, 4, 6, 1);
        }
        for (int place : new int[] {2, 8, 9, 15, 18, 21, 23}) {
            numbers(x, place, 2, 9, 10, 1);
        }
        Due.throwsJust("chain(1, 0)", NoSuchElementException.class, () -> x.chain(1, 0));
        Due.throwsJust("chain(0, 5)", ARGUMENT, () -> x.chain(0, 5));
        Due.throwsJust("chain(0, -1)", ARGUMENT, () -> x.chain(0, -1));
        Due.throwsJust("chain(1, 5): the number comes before the stone", ARGUMENT, () -> x.chain(1, 5));
        Due.throwsJust("chain(24, 5): the place comes first", INDEX, () -> x.chain(24, 5));
        Due.throwsJust("chain(-1, 0)", INDEX, () -> x.chain(-1, 0));
    }

    private static void promise9VitalRegions() {
        RingStones two = Due.board("board 3 6; row bobobo; row bbbbbb; row oooooo;");
        Due.gives("three eyes and a ring of its own", 4, () -> two.chain(0, 4));
        RingStones far = Due.board("board 4 4; row bobo; row bbbb; row wooo; row wooo;");
        Due.gives("a region with places that are no freedoms", 2, () -> far.chain(0, 4));
        RingStones stones = Due.board("board 4 4; row bobo; row bbbb; row wooo; row wwww;");
        Due.gives("a region with stones, whose empty places are freedoms", 3, () -> stones.chain(0, 4));
        Due.gives("the regions of white", 0, () -> stones.chain(8, 4));
        RingStones shared = Due.board("board 1 9; row bobowwoow;");
        Due.gives("a region that is vital to two chains", "1 1", () -> shared.chain(0, 4) + " " + shared.chain(2, 4));
        RingStones inside = Due.board("board 1 9; row owbowwooo;");
        Due.gives("a region with a black stone and one empty place", 1, () -> inside.chain(4, 4));
        Due.gives("the empty place is no freedom of the other chain", 0, () -> inside.chain(1, 4));
    }

    private static void promise10Freedom() {
        RingStones x = winding();
        int[] want = {1, 4, 7, 10, 12, 17};
        for (int i = 0; i < want.length; i++) {
            int index = i;
            Due.gives("freedom(11, " + i + ")", want[i], () -> x.freedom(11, index));
        }
        for (int index : new int[] {6, -1, Integer.MAX_VALUE, Integer.MIN_VALUE}) {
            Due.throwsJust("freedom(11, " + index + ")", INDEX, () -> x.freedom(11, index));
        }
        Due.throwsJust("freedom(1, 0) of an empty place", INDEX, () -> x.freedom(1, 0));
        Due.throwsJust("freedom(24, 0)", INDEX, () -> x.freedom(24, 0));
        Due.throwsJust("freedom(-1, 0)", INDEX, () -> x.freedom(-1, 0));
        Due.throwsJust("freedom(64, 0)", INDEX, () -> x.freedom(64, 0));
        RingStones first = Due.board("board 1 4; row oboo;");
        Due.gives("freedom(1, 0)", 0, () -> first.freedom(1, 0));
        Due.gives("freedom(1, 1)", 2, () -> first.freedom(1, 1));
        RingStones last = Due.board("board 5 12; row oooooooooooo; row oooooooooooo; row oooooooooooo; row oooooooooooo;"
            + " row ooooooooooob;");
        Due.gives("freedom(59, 0)", 47, () -> last.freedom(59, 0));
        Due.gives("freedom(59, 1)", 48, () -> last.freedom(59, 1));
        Due.gives("freedom(59, 2)", 58, () -> last.freedom(59, 2));
    }

    private static void promise11Chains() {
        RingStones x = Due.board("board 3 6; row bobobb; row owoooo; row bbooow;");
        int[] black = {0, 0, 1, 2, 2, 3};
        for (int most = 0; most < black.length; most++) {
            int number = most;
            Due.gives("chains(1, " + most + ")", black[most], () -> x.chains(1, number));
        }
        Due.gives("chains(1, all)", 3, () -> x.chains(1, Integer.MAX_VALUE));
        Due.gives("chains(1, none)", 0, () -> x.chains(1, Integer.MIN_VALUE));
        Due.gives("chains(2, 1)", 0, () -> x.chains(2, 1));
        Due.gives("chains(2, 2)", 1, () -> x.chains(2, 2));
        Due.gives("chains(2, 3)", 2, () -> x.chains(2, 3));
        RingStones first = Due.board("board 1 4; row bowo;");
        Due.gives("chains(1, 2) with a stone on place 0", 1, () -> first.chains(1, 2));
        for (int colour : new int[] {0, 3, -1}) {
            Due.throwsJust("chains(" + colour + ", 1)", ARGUMENT, () -> x.chains(colour, 1));
        }
    }

    private static void promise12Weakest() {
        RingStones x = Due.board("board 3 6; row bobobb; row owoooo; row bbooow;");
        Due.gives("weakest(1): the fewest freedoms", 12, () -> x.weakest(1));
        Due.gives("weakest(2)", 17, () -> x.weakest(2));
        RingStones stones = Due.board("board 1 12; row obowwoooobbo;");
        Due.gives("weakest(1): then the most stones", 9, () -> stones.weakest(1));
        RingStones lowest = Due.board("board 1 9; row obbowobbo;");
        Due.gives("weakest(1): then the lowest place", 1, () -> lowest.weakest(1));
        Due.gives("weakest(2): the only one", 4, () -> lowest.weakest(2));
        RingStones first = Due.board("board 1 9; row bowoobooo;");
        first.setStone(8, 2);
        Due.gives("weakest(1) on place 0", 0, () -> first.weakest(1));
        RingStones none = new RingStones();
        Due.throwsJust("weakest(1) without stones", NoSuchElementException.class, () -> none.weakest(1));
        Due.throwsJust("weakest(2) without stones", NoSuchElementException.class, () -> none.weakest(2));
        Due.throwsJust("weakest(0): the colour comes first", ARGUMENT, () -> none.weakest(0));
        Due.throwsJust("weakest(3)", ARGUMENT, () -> none.weakest(3));
    }
}
