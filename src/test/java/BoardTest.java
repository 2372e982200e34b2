/** Promises 1 and 5 to 8: a new object, its numbers, and the places. */
public final class BoardTest {
    private static final Class<IndexOutOfBoundsException> INDEX = IndexOutOfBoundsException.class;
    private static final Class<IllegalArgumentException> ARGUMENT = IllegalArgumentException.class;

    public static void main(String[] args) {
        promise1NewObject();
        promise5Count();
        promise5CountsOfAGame();
        promise6Place();
        promise7Neighbour();
        promise8Stone();
        Due.end();
    }

    private static void counts(String when, RingStones x, int... want) {
        for (int i = 0; i < want.length; i++) {
            int what = i;
            Due.gives(when + " count(" + what + ")", want[i], () -> x.count(what));
        }
    }

    private static void promise1NewObject() {
        RingStones x = new RingStones();
        counts("at first", x, 1, 3, 0, 0, 1, 0, 0, 0, 0, -1, 0, 0);
        Due.gives("errorPosition()", -1, x::errorPosition);
        Due.throwsJust("writtenByte(0)", INDEX, () -> x.writtenByte(0));
        Due.throwsJust("undo()", IllegalStateException.class, x::undo);
        for (int slot = 0; slot < 2; slot++) {
            int number = slot;
            Due.gives("differing(" + slot + ")", -1, () -> x.differing(number));
            Due.throwsJust("restore(" + slot + ")", IllegalStateException.class, () -> x.restore(number));
        }
        Due.gives("load(0) of the empty buffer", -2, () -> x.load(0));
        Due.gives("append to the empty buffer", 20, () -> x.append(0, 0, 0, 0, 0));
        RingStones y = new RingStones();
        y.play(0);
        Due.gives("another object keeps its board", 0, () -> x.count(2));
    }

    private static void promise5Count() {
        RingStones x = Due.board("board 2 5; rule 1; bonus 42; turn white; row bboow; row ooowo;");
        counts("loaded", x, 2, 5, 2, 2, 2, 0, 0, 0, 0, -1, 1, 42);
        for (int what : new int[] {-1, 12, 13, Integer.MIN_VALUE, Integer.MAX_VALUE}) {
            Due.throwsJust("count(" + what + ")", ARGUMENT, () -> x.count(what));
        }
    }

    private static void promise5CountsOfAGame() {
        RingStones x = Due.board("board 3 6; row obwooo; row bwowoo; row obwooo;");
        x.play(8);
        counts("a stone captured", x, 3, 6, 4, 3, 2, 1, 0, 0, 1, 7, 0, 0);
        x.pass();
        counts("a pass", x, 3, 6, 4, 3, 1, 1, 1, 0, 1, -1, 0, 0);
        x.play(5);
        counts("a move behind a pass", x, 3, 6, 5, 3, 2, 2, 0, 0, 1, -1, 0, 0);
        x.play(7);
        counts("captured back", x, 3, 6, 4, 4, 1, 3, 0, 1, 1, 8, 0, 0);
        x.pass();
        x.pass();
        counts("over", x, 3, 6, 4, 4, 1, 3, 2, 1, 1, -1, 0, 0);
        x.setBonus(-99);
        x.setRule(1);
        counts("rule and bonus set", x, 3, 6, 4, 4, 1, 3, 2, 1, 1, -1, 1, -99);
        Due.load(x, "board 1 3; row ooo;");
        counts("loaded again", x, 1, 3, 0, 0, 1, 0, 0, 0, 0, -1, 0, 0);
    }

    private static void promise6Place() {
        RingStones x = Due.board("board 3 7; row ooooooo; row ooooooo; row ooooooo;");
        Due.gives("place(0, 0)", 0, () -> x.place(0, 0));
        Due.gives("place(0, 6)", 6, () -> x.place(0, 6));
        Due.gives("place(1, 0)", 7, () -> x.place(1, 0));
        Due.gives("place(2, 6)", 20, () -> x.place(2, 6));
        int[][] none = {{3, 0}, {-1, 0}, {0, 7}, {0, -1}, {Integer.MAX_VALUE, 0}, {0, Integer.MIN_VALUE}};
        for (int[] at : none) {
            Due.throwsJust("place(" + at[0] + ", " + at[1] + ")", INDEX, () -> x.place(at[0], at[1]));
        }
    }

    private static void promise7Neighbour() {
        RingStones x = Due.board("board 5 12; row oooooooooooo; row oooooooooooo; row oooooooooooo; row oooooooooooo;"
            + " row oooooooooooo;");
        int[][] want = {{0, 1, 11, 12, -1}, {11, 0, 10, 23, -1}, {12, 13, 23, 24, 0}, {30, 31, 29, 42, 18},
            {48, 49, 59, -1, 36}, {59, 48, 58, -1, 47}};
        for (int[] row : want) {
            for (int direction = 0; direction < 4; direction++) {
                int way = direction;
                Due.gives("neighbour(" + row[0] + ", " + way + ")", row[way + 1], () -> x.neighbour(row[0], way));
            }
        }
        RingStones small = new RingStones();
        int[][] ring = {{1, 2, -1, -1}, {2, 0, -1, -1}, {0, 1, -1, -1}};
        for (int place = 0; place < 3; place++) {
            for (int direction = 0; direction < 4; direction++) {
                int at = place;
                int way = direction;
                Due.gives("neighbour(" + at + ", " + way + ")", ring[at][way], () -> small.neighbour(at, way));
            }
        }
        Due.throwsJust("neighbour(0, 4)", ARGUMENT, () -> small.neighbour(0, 4));
        Due.throwsJust("neighbour(0, -1)", ARGUMENT, () -> small.neighbour(0, -1));
        Due.throwsJust("neighbour(3, 0)", INDEX, () -> small.neighbour(3, 0));
        Due.throwsJust("neighbour(-1, 0)", INDEX, () -> small.neighbour(-1, 0));
        Due.throwsJust("neighbour(3, 4): the place comes first", INDEX, () -> small.neighbour(3, 4));
    }

    private static void promise8Stone() {
        RingStones x = Due.board("board 5 12; row boooooooooow; row oooooooooooo; row oooooooooooo; row oooooooooooo;"
            + " row woooooooooob;");
        int[][] want = {{0, 1}, {1, 0}, {11, 2}, {12, 0}, {48, 2}, {59, 1}, {58, 0}};
        for (int[] row : want) {
            Due.gives("stone(" + row[0] + ")", row[1], () -> x.stone(row[0]));
        }
        for (int place : new int[] {-1, 60, 64, Integer.MAX_VALUE, Integer.MIN_VALUE}) {
            Due.throwsJust("stone(" + place + ")", INDEX, () -> x.stone(place));
        }
    }
}
