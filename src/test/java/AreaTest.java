/** Promises 30 to 32: areas, the score and shares. */
public final class AreaTest {
    private static final Class<IllegalArgumentException> ARGUMENT = IllegalArgumentException.class;

    public static void main(String[] args) {
        promise30Area();
        promise31Score();
        promise32Share();
        Due.end();
    }

    private static void promise30Area() {
        RingStones empty = new RingStones();
        Due.gives("areas of an empty board", "0 0", () -> empty.area(1) + " " + empty.area(2));
        RingStones x = Due.board("board 1 12; row bobowwoowowb;");
        Due.gives("area(1)", 4, () -> x.area(1));
        Due.gives("area(2)", 7, () -> x.area(2));
        empty.play(0);
        Due.gives("one stone has all", 3, () -> empty.area(1));
        RingStones large = Due.board("board 5 12; row oooooooooooo; row oooooooooooo; row oooooooooooo; row oooooooooooo;"
            + " row ooooooooooow;");
        Due.gives("a large board", "0 60", () -> large.area(1) + " " + large.area(2));
        for (int colour : new int[] {0, 3, -1}) {
            Due.throwsJust("area(" + colour + ")", ARGUMENT, () -> x.area(colour));
        }
    }

    private static void promise31Score() {
        RingStones x = Due.board("board 1 12; bonus 20; row bobowwoowowb;");
        Due.gives("score()", -23, x::score);
        x.setBonus(-99);
        Due.gives("score() with a bonus below 0", 96, x::score);
        RingStones empty = new RingStones();
        Due.gives("score() of an empty board", 0, empty::score);
        empty.setBonus(99);
        Due.gives("score() is the bonus alone", -99, empty::score);
    }

    private static void promise32Share() {
        RingStones x = Due.board("board 1 12; bonus 20; row bobowwoowowb;");
        Due.gives("share(1)", 4f / 12f, () -> x.share(1));
        Due.gives("share(2)", 7f / 12f, () -> x.share(2));
        RingStones empty = new RingStones();
        Due.gives("share(1) of an empty board", 0f, () -> empty.share(1));
        empty.play(1);
        Due.gives("share(1) of one stone", 1f, () -> empty.share(1));
        for (int colour : new int[] {0, 3, -1}) {
            Due.throwsJust("share(" + colour + ")", ARGUMENT, () -> x.share(colour));
        }
    }
}
