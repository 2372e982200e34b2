import java.util.NoSuchElementException;

/** Promises 23 to 26: pools, shared eyes and standoffs. */
public final class PoolTest {
    private static final Class<IndexOutOfBoundsException> INDEX = IndexOutOfBoundsException.class;
    private static final Class<IllegalArgumentException> ARGUMENT = IllegalArgumentException.class;

    public static void main(String[] args) {
        promise23Pools();
        promise24Pool();
        promise25SharedEye();
        promise26Standoff();
        Due.end();
    }

    private static void pools(RingStones x, int all, int none, int black, int white, int both) {
        int[] want = {all, none, black, white, both};
        for (int i = 0; i < want.length; i++) {
            int owners = i - 1;
            Due.gives("pools(" + owners + ")", want[i], () -> x.pools(owners));
        }
    }

    private static void promise23Pools() {
        pools(new RingStones(), 1, 1, 0, 0, 0);
        pools(Due.board("board 1 9; row obobowwow;"), 4, 0, 1, 1, 2);
        pools(Due.board("board 3 6; row obobob; row bobobo; row obobob;"), 9, 0, 9, 0, 0);
        pools(Due.board("board 3 6; row obobob; row bbobob; row wwowww;"), 3, 0, 1, 0, 2);
        RingStones x = new RingStones();
        for (int owners : new int[] {-2, 4, Integer.MAX_VALUE, Integer.MIN_VALUE}) {
            Due.throwsJust("pools(" + owners + ")", ARGUMENT, () -> x.pools(owners));
        }
    }

    private static void numbers(RingStones x, int place, int... want) {
        for (int what = 0; what < want.length; what++) {
            int number = what;
            Due.gives("pool(" + place + ", " + what + ")", want[what], () -> x.pool(place, number));
        }
    }

    private static void promise24Pool() {
        RingStones x = Due.board("board 1 9; row obobowwow;");
        numbers(x, 0, 0, 1, 3, 1, 1);
        numbers(x, 2, 2, 1, 1, 2, 0);
        numbers(x, 4, 4, 1, 3, 1, 1);
        numbers(x, 7, 7, 1, 2, 0, 2);
        RingStones large = Due.board("board 3 6; row obooob; row obowob; row obooow;");
        numbers(large, 2, 2, 8, 3, 2, 2);
        numbers(large, 15, 2, 8, 3, 2, 2);
        numbers(large, 12, 0, 3, 3, 2, 1);
        RingStones empty = new RingStones();
        numbers(empty, 2, 0, 3, 0, 0, 0);
        Due.throwsJust("pool(1, 0) on a stone", NoSuchElementException.class, () -> x.pool(1, 0));
        Due.throwsJust("pool(0, 5)", ARGUMENT, () -> x.pool(0, 5));
        Due.throwsJust("pool(0, -1)", ARGUMENT, () -> x.pool(0, -1));
        Due.throwsJust("pool(1, 5): the number comes before the stone", ARGUMENT, () -> x.pool(1, 5));
        Due.throwsJust("pool(9, 5): the place comes first", INDEX, () -> x.pool(9, 5));
        Due.throwsJust("pool(-1, 0)", INDEX, () -> x.pool(-1, 0));
    }

    private static void promise25SharedEye() {
        RingStones x = Due.board("board 1 9; row obobowwow;");
        boolean[] want = {false, false, true, false, false, false, false, true, false};
        for (int place = 0; place < 9; place++) {
            int at = place;
            Due.gives("isSharedEye(" + at + ")", want[at], () -> x.isSharedEye(at));
        }
        RingStones one = Due.board("board 2 6; row bobooo; row bbbooo;");
        Due.gives("an eye of one chain", false, () -> one.isSharedEye(1));
        Due.gives("a larger pool of one chain", false, () -> one.isSharedEye(10));
        RingStones larger = Due.board("board 2 6; row booboo; row booboo;");
        Due.gives("a larger pool of two chains", true, () -> larger.isSharedEye(8));
        RingStones none = new RingStones();
        Due.gives("an empty board", false, () -> none.isSharedEye(0));
        Due.throwsJust("isSharedEye(3)", INDEX, () -> none.isSharedEye(3));
        Due.throwsJust("isSharedEye(-1)", INDEX, () -> none.isSharedEye(-1));
    }

    private static void promise26Standoff() {
        RingStones x = Due.board("board 1 8; row bbowwwob;");
        Due.gives("stones", 6, () -> x.count(2) + x.count(3));
        for (int place = 0; place < 8; place++) {
            int at = place;
            Due.gives("isStandoff(" + at + ")", at == 2 || at == 6, () -> x.isStandoff(at));
        }
        RingStones two = Due.board("board 1 8; row bbooowwo;");
        Due.gives("a pool that can be entered", false, () -> two.isStandoff(3));
        Due.gives("a pool that only ends in few freedoms", true, () -> two.isStandoff(7));
        RingStones captured = Due.board("board 1 12; row bwwobobwwobo;");
        Due.gives("a capture leaves two freedoms", false, () -> captured.isStandoff(3));
        RingStones white = Due.board("board 2 6; row owoowb; row wwbobw;");
        Due.gives("moves that leave two freedoms at most", "0 2", () -> white.move(0, 1, 2) + " " + white.move(0, 2, 2));
        Due.gives("white alone can enter", false, () -> white.isStandoff(0));
        RingStones own = Due.board("board 1 5; row bobow;");
        Due.gives("a pool of one owner", false, () -> own.isStandoff(1));
        RingStones twoPlaces = Due.board("board 2 4; row bowo; row bowo;");
        Due.gives("pools of two places", "false false", () -> twoPlaces.isStandoff(1) + " " + twoPlaces.isStandoff(7));
        RingStones over = Due.board("board 1 8; row bbowwwob;");
        over.pass();
        over.pass();
        Due.gives("the end of the game does not matter", true, () -> over.isStandoff(2));
        Due.throwsJust("isStandoff(8)", INDEX, () -> x.isStandoff(8));
        Due.throwsJust("isStandoff(-1)", INDEX, () -> x.isStandoff(-1));
    }
}
