import java.util.NoSuchElementException;

/** Promises 13 to 18: refusals, moves and passes. */
public final class MoveTest {
    private static final Class<IndexOutOfBoundsException> INDEX = IndexOutOfBoundsException.class;
    private static final Class<IllegalArgumentException> ARGUMENT = IllegalArgumentException.class;
    private static final Class<IllegalStateException> STATE = IllegalStateException.class;
    private static final Class<NoSuchElementException> NO_ELEMENT = NoSuchElementException.class;
    private static final String BAN = "row obwooo; row bwowoo; row obwooo;";

    public static void main(String[] args) {
        promise13ReasonsInOrder();
        promise13Repetition();
        promise13ThirtyPositions();
        promise13WrongInputs();
        promise14Play();
        promise14Bans();
        promise14NoBan();
        promise14Refused();
        promise15Pass();
        promise16Move();
        promise17Moves();
        promise18Greediest();
        Due.end();
    }

    private static void reason(RingStones x, int place, int colour, int want) {
        Due.gives("reason(" + place + ", " + colour + ")", want, () -> x.reason(place, colour));
    }

    private static void plays(RingStones x, int place, int want) {
        Due.gives("play(" + place + ")", want, () -> x.play(place));
    }

    private static void promise13ReasonsInOrder() {
        RingStones x = Due.board("board 3 6; rule 1;" + BAN);
        reason(x, 8, 1, 0);
        reason(x, 7, 1, 2);
        reason(x, 7, 2, 2);
        reason(x, 8, 2, 0);
        x.play(8);
        reason(x, 7, 2, 3);
        reason(x, 7, 1, 0);
        reason(x, 8, 2, 2);
        x.pass();
        reason(x, 7, 2, 5);
        reason(x, 7, 1, 0);
        x.pass();
        for (int place : new int[] {0, 7, 8}) {
            reason(x, place, 1, 1);
            reason(x, place, 2, 1);
        }
        RingStones eye = Due.board("board 2 5; row obwob; row boowo;");
        reason(eye, 0, 2, 4);
        reason(eye, 0, 1, 0);
        reason(eye, 3, 1, 0);
    }

    private static void promise13Repetition() {
        RingStones x = Due.board("board 3 6; rule 1;" + BAN);
        x.play(8);
        x.setTurn(2);
        reason(x, 7, 2, 5);
        x.setRule(1);
        reason(x, 7, 2, 0);
        x.undo();
        reason(x, 7, 2, 5);
        x.setRule(0);
        reason(x, 7, 2, 0);
        x.setRule(1);
        reason(x, 7, 2, 0);
        x.play(7);
        x.setTurn(1);
        reason(x, 8, 1, 5);
        x.setStone(5, 1);
        reason(x, 8, 1, 0);
        RingStones first = Due.board("board 1 3; rule 1; row ooo;");
        first.play(0);
        first.setTurn(1);
        first.play(1);
        first.play(2);
        Due.gives("two captured", 2, () -> first.count(7));
        first.play(0);
        reason(first, 1, 2, 0);
        reason(first, 1, 1, 5);
        first.setRule(0);
        reason(first, 1, 1, 0);
    }

    /**
     * Black fills a board but for its last place, white captures all, black captures the one white stone: as many moves
     * as places lead to the stones of the beginning. An extra white stone, captured on the way, makes it one more.
     */
    private static RingStones aroundTheBoard(boolean extra) {
        RingStones x = new RingStones();
        Due.load(x, "board 5 6; row oooooo; row oooooo; row oooooo; row ooooob; row oooobo;");
        x.setStone(24, 1);
        x.setRule(1);
        if (extra) {
            x.setTurn(2);
            plays(x, 0, 0);
        }
        int captured = 0;
        for (int place = 1; place < 28; place++) {
            if (place != 23 && place != 24) {
                captured += putBlack(x, place);
            }
        }
        Due.gives("the extra stone is captured", extra ? 1 : 0, () -> x.count(8));
        captured += putBlack(x, 0);
        x.setTurn(2);
        plays(x, 29, 29);
        putBlack(x, 23);
        putBlack(x, 24);
        x.setTurn(1);
        return x;
    }

    private static int putBlack(RingStones x, int place) {
        x.setTurn(1);
        return x.play(place);
    }

    private static void promise13ThirtyPositions() {
        RingStones thirty = aroundTheBoard(false);
        Due.gives("moves", 29, () -> thirty.count(5));
        reason(thirty, 28, 1, 5);
        RingStones more = aroundTheBoard(true);
        Due.gives("moves", 30, () -> more.count(5));
        reason(more, 28, 1, 0);
        plays(more, 28, 1);
    }

    private static void promise13WrongInputs() {
        RingStones x = new RingStones();
        Due.throwsJust("reason(3, 1)", INDEX, () -> x.reason(3, 1));
        Due.throwsJust("reason(-1, 1)", INDEX, () -> x.reason(-1, 1));
        Due.throwsJust("reason(3, 0): the place comes first", INDEX, () -> x.reason(3, 0));
        Due.throwsJust("reason(0, 0)", ARGUMENT, () -> x.reason(0, 0));
        Due.throwsJust("reason(0, 3)", ARGUMENT, () -> x.reason(0, 3));
    }

    private static void promise14Play() {
        RingStones x = Due.board("board 3 6; row owbooo; row wbbwoo; row owwooo;");
        x.setTurn(2);
        plays(x, 3, 3);
        Due.gives("stones taken away", "0 0 0", () -> x.stone(2) + " " + x.stone(7) + " " + x.stone(8));
        Due.gives("no ban behind three", -1, () -> x.count(9));
        Due.gives("turn", 1, () -> x.count(4));
        plays(x, 7, 0);
        Due.gives("turn", 2, () -> x.count(4));
        RingStones twice = Due.board("board 3 5; row owowo; row wbobw; row owowo;");
        twice.setTurn(2);
        plays(twice, 7, 2);
        Due.gives("both chains are captured", 0, () -> twice.count(2));
        Due.gives("captured black stones", 2, () -> twice.count(7));
        Due.gives("no ban behind two", -1, () -> twice.count(9));
        RingStones whole = Due.board("board 1 3; row bbo;");
        whole.setTurn(2);
        plays(whole, 2, 2);
        Due.gives("over the end of the ring", "0 0 2", () -> whole.stone(0) + " " + whole.stone(1) + " " + whole.stone(2));
    }

    private static void promise14Bans() {
        RingStones x = Due.board("board 3 6;" + BAN);
        plays(x, 8, 1);
        Due.gives("the ban", 7, () -> x.count(9));
        Due.throwsJust("play(7)", STATE, () -> x.play(7));
        plays(x, 4, 0);
        Due.gives("the ban ends with a move", -1, () -> x.count(9));
        plays(x, 5, 0);
        plays(x, 7, 1);
        Due.gives("the ban for black", 8, () -> x.count(9));
        reason(x, 8, 1, 3);
        reason(x, 8, 2, 0);
        x.setBonus(5);
        x.setRule(1);
        Due.gives("bonus and rule leave the ban", 8, () -> x.count(9));
        x.pass();
        Due.gives("the ban ends with a pass", -1, () -> x.count(9));
    }

    private static void promise14NoBan() {
        RingStones joined = Due.board("board 3 6; row obwooo; row bwobwo; row obwooo;");
        plays(joined, 8, 1);
        Due.gives("no ban for a chain of two", -1, () -> joined.count(9));
        RingStones free = Due.board("board 3 6; row obwooo; row bwoooo; row obwooo;");
        plays(free, 8, 1);
        Due.gives("no ban with two freedoms", -1, () -> free.count(9));
    }

    private static void promise14Refused() {
        RingStones x = Due.board("board 3 6; rule 1;" + BAN);
        x.play(8);
        String before = Due.state(x);
        Due.throwsJust("play(7)", STATE, () -> x.play(7));
        Due.throwsJust("play(8)", STATE, () -> x.play(8));
        Due.throwsJust("play(-1)", INDEX, () -> x.play(-1));
        Due.throwsJust("play(18)", INDEX, () -> x.play(18));
        Due.gives("nothing changed", before, () -> Due.state(x));
        x.pass();
        x.pass();
        Due.throwsJust("play(0) when the game is over", STATE, () -> x.play(0));
        Due.throwsJust("play(18): the place comes first", INDEX, () -> x.play(18));
        Due.gives("refused moves are no changes", 3, x::undo);
    }

    private static void promise15Pass() {
        RingStones x = Due.board("board 3 6;" + BAN);
        Due.gives("pass", 1, x::pass);
        Due.gives("turn", 2, () -> x.count(4));
        x.setBonus(3);
        x.setRule(1);
        Due.gives("the second pass", 2, x::pass);
        Due.gives("turn", 1, () -> x.count(4));
        Due.gives("a pass is no move", 0, () -> x.count(5));
        Due.throwsJust("pass when the game is over", STATE, x::pass);
        x.undo();
        Due.gives("passes behind undo", 1, () -> x.count(6));
        x.play(0);
        Due.gives("passes behind a move", 0, () -> x.count(6));
        Due.gives("pass", 1, x::pass);
    }

    private static void move(RingStones x, int place, int colour, int captured, int stones, int freedoms) {
        int[] want = {captured, stones, freedoms};
        for (int what = 0; what < 3; what++) {
            int number = what;
            Due.gives("move(" + place + ", " + colour + ", " + what + ")", want[what], () -> x.move(place, colour, number));
        }
    }

    private static void promise16Move() {
        RingStones x = Due.board("board 3 6;" + BAN);
        String before = Due.state(x);
        move(x, 8, 1, 1, 1, 1);
        move(x, 8, 2, 0, 5, 3);
        move(x, 0, 1, 0, 3, 3);
        move(x, 17, 2, 0, 1, 3);
        Due.gives("nothing changes", before, () -> Due.state(x));
        x.play(8);
        move(x, 7, 2, 1, 1, 1);
        x.pass();
        x.pass();
        move(x, 7, 2, 1, 1, 1);
        RingStones eye = Due.board("board 2 5; row obwob; row boowo;");
        move(eye, 0, 2, 0, 1, 0);
        RingStones joined = Due.board("board 1 7; row bwowbob;");
        move(joined, 2, 2, 0, 3, 0);
        move(joined, 2, 1, 2, 1, 2);
        Due.throwsJust("move(0, 1, 0) on a stone", STATE, () -> eye.move(1, 1, 0));
        Due.throwsJust("move(0, 1, 3)", ARGUMENT, () -> eye.move(0, 1, 3));
        Due.throwsJust("move(0, 1, -1)", ARGUMENT, () -> eye.move(0, 1, -1));
        Due.throwsJust("move(0, 0, 0)", ARGUMENT, () -> eye.move(0, 0, 0));
        Due.throwsJust("move(0, 3, 0)", ARGUMENT, () -> eye.move(0, 3, 0));
        Due.throwsJust("move(1, 1, 3): the number comes before the stone", ARGUMENT, () -> eye.move(1, 1, 3));
        Due.throwsJust("move(10, 3, 3): the place comes first", INDEX, () -> eye.move(10, 3, 3));
        Due.throwsJust("move(-1, 1, 0)", INDEX, () -> eye.move(-1, 1, 0));
    }

    private static void promise17Moves() {
        RingStones x = Due.board("board 3 6; rule 1;" + BAN);
        Due.gives("moves(1)", 11, () -> x.moves(1));
        Due.gives("moves(2)", 11, () -> x.moves(2));
        x.play(8);
        Due.gives("moves(1)", 11, () -> x.moves(1));
        Due.gives("moves(2) but the banned place", 10, () -> x.moves(2));
        x.pass();
        Due.gives("moves(2) but the repetition", 10, () -> x.moves(2));
        x.pass();
        Due.gives("moves(1) when the game is over", 0, () -> x.moves(1));
        RingStones eye = Due.board("board 2 5; row obwob; row boowo;");
        Due.gives("moves(1)", 5, () -> eye.moves(1));
        Due.gives("moves(2) but the one without a freedom", 4, () -> eye.moves(2));
        for (int colour : new int[] {0, 3, -1}) {
            Due.throwsJust("moves(" + colour + ")", ARGUMENT, () -> eye.moves(colour));
        }
    }

    private static void promise18Greediest() {
        RingStones x = new RingStones();
        Due.gives("greediest(1) of an empty board", 0, () -> x.greediest(1));
        RingStones two = Due.board("board 3 6;" + BAN);
        Due.gives("greediest(1)", 8, () -> two.greediest(1));
        two.play(8);
        Due.gives("greediest(2): the banned place is left out", 0, () -> two.greediest(2));
        Due.gives("greediest(1)", 3, () -> two.greediest(1));
        two.pass();
        Due.gives("greediest(2) behind a pass", 7, () -> two.greediest(2));
        RingStones larger = Due.board("board 1 11; row obwobwwoboo;");
        Due.gives("greediest(1): the most stones", 7, () -> larger.greediest(1));
        RingStones lowest = Due.board("board 1 11; row obwobwoobwo;");
        Due.gives("greediest(1): of several the lowest", 3, () -> lowest.greediest(1));
        two.pass();
        Due.throwsJust("greediest(1) when the game is over", NO_ELEMENT, () -> two.greediest(1));
        RingStones full = Due.board("board 1 3; row bbo;");
        Due.throwsJust("greediest(1) without a move", NO_ELEMENT, () -> full.greediest(1));
        Due.gives("greediest(2)", 2, () -> full.greediest(2));
        Due.throwsJust("greediest(0)", ARGUMENT, () -> full.greediest(0));
        Due.throwsJust("greediest(3): the colour comes first", ARGUMENT, () -> two.greediest(3));
    }
}
