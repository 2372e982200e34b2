/** Promises 19 to 22: changes without a move. */
public final class SettingTest {
    private static final Class<IndexOutOfBoundsException> INDEX = IndexOutOfBoundsException.class;
    private static final Class<IllegalArgumentException> ARGUMENT = IllegalArgumentException.class;
    private static final Class<IllegalStateException> STATE = IllegalStateException.class;

    public static void main(String[] args) {
        promise19SetStone();
        promise19BeginsAnew();
        promise19ForgetsPositions();
        promise19Refused();
        promise20SetTurn();
        promise21SetRule();
        promise22SetBonus();
        Due.end();
    }

    private static RingStones banned(int rule) {
        RingStones x = Due.board("board 3 6; rule " + rule + "; row obwooo; row bwowoo; row obwooo;");
        x.play(8);
        return x;
    }

    private static void promise19SetStone() {
        RingStones x = new RingStones();
        Due.gives("setStone(0, 2)", 0, () -> x.setStone(0, 2));
        Due.gives("setStone(0, 1)", 2, () -> x.setStone(0, 1));
        Due.gives("setStone(0, 1) again", 1, () -> x.setStone(0, 1));
        Due.gives("stones", "1 0", () -> x.count(2) + " " + x.count(3));
        Due.gives("setStone(1, 2)", 0, () -> x.setStone(1, 2));
        Due.gives("setStone(0, 0)", 1, () -> x.setStone(0, 0));
        Due.gives("setStone(0, 0) again", 0, () -> x.setStone(0, 0));
        Due.gives("stone(0)", 0, () -> x.stone(0));
        Due.gives("stone(1)", 2, () -> x.stone(1));
        Due.gives("the turn stays", 1, () -> x.count(4));
        Due.gives("a stone set is no move", 0, () -> x.count(5));
        Due.gives("all six are changes", 5, x::undo);
    }

    private static void promise19BeginsAnew() {
        RingStones x = banned(1);
        Due.gives("setStone(17, 0)", 0, () -> x.setStone(17, 0));
        Due.gives("the ban ends", -1, () -> x.count(9));
        Due.gives("no repetition of what was before", 0, () -> x.reason(7, 2));
        Due.gives("captured stones stay", 1, () -> x.count(8));
        x.play(7);
        x.setTurn(1);
        Due.gives("a repetition of the stones behind setStone", 5, () -> x.reason(8, 1));
        x.pass();
        x.pass();
        x.setStone(17, 0);
        Due.gives("no passes in a row", 0, () -> x.count(6));
        Due.gives("moves stay", 2, () -> x.count(5));
    }

    private static void promise19ForgetsPositions() {
        RingStones x = Due.board("board 1 6; rule 1; row bowoow;");
        x.setStone(5, 0);
        Due.gives("the stones before setStone are no position", 0, () -> x.reason(5, 2));
        x.play(3);
        x.setStone(3, 0);
        Due.gives("nor are those of a move before it", 0, () -> x.reason(3, 1));
        x.setRule(1);
        x.setStone(0, 0);
        x.setTurn(2);
        x.play(5);
        Due.gives("nor behind one more move", 0, () -> x.reason(0, 1));
        Due.load(x, "board 1 6; rule 1; row oowooo;");
        Due.gives("nor those before load", 0, () -> x.reason(5, 2));
    }

    private static void promise19Refused() {
        RingStones x = Due.board("board 2 5; row obwob; row boowo;");
        String before = Due.state(x);
        Due.throwsJust("setStone(0, 2): the stone itself", STATE, () -> x.setStone(0, 2));
        RingStones ring = Due.board("board 1 4; row bwwo;");
        Due.throwsJust("setStone(3, 1): no capture", STATE, () -> ring.setStone(3, 1));
        Due.throwsJust("setStone(3, 2): a chain beside it", STATE, () -> ring.setStone(3, 2));
        RingStones beside = Due.board("board 1 5; row bbwoo;");
        Due.throwsJust("setStone(0, 2): a stone instead of another one", STATE, () -> beside.setStone(0, 2));
        Due.throwsJust("setStone(0, -1)", ARGUMENT, () -> x.setStone(0, -1));
        Due.throwsJust("setStone(0, 3)", ARGUMENT, () -> x.setStone(0, 3));
        Due.throwsJust("setStone(10, 3): the place comes first", INDEX, () -> x.setStone(10, 3));
        Due.throwsJust("setStone(-1, 1)", INDEX, () -> x.setStone(-1, 1));
        Due.gives("nothing changed", before, () -> Due.state(x));
        Due.gives("refused calls are no changes", 0, x::undo);
    }

    private static void promise20SetTurn() {
        RingStones x = banned(1);
        Due.gives("setTurn(2)", 2, () -> x.setTurn(2));
        Due.gives("the ban ends", -1, () -> x.count(9));
        Due.gives("the positions stay", 5, () -> x.reason(7, 2));
        x.pass();
        x.pass();
        Due.gives("setTurn(1)", 2, () -> x.setTurn(1));
        Due.gives("turn", 1, () -> x.count(4));
        Due.gives("no passes in a row", 0, () -> x.count(6));
        Due.gives("the game goes on", 0, () -> x.reason(0, 1));
        Due.gives("moves stay", 1, () -> x.count(5));
        for (int colour : new int[] {0, 3, -1}) {
            Due.throwsJust("setTurn(" + colour + ")", ARGUMENT, () -> x.setTurn(colour));
        }
        Due.gives("a change", 5, x::undo);
        Due.gives("turn behind undo", "2 2", () -> x.count(4) + " " + x.count(6));
    }

    private static void promise21SetRule() {
        RingStones x = banned(0);
        Due.gives("setRule(1)", 0, () -> x.setRule(1));
        Due.gives("rule", 1, () -> x.count(10));
        Due.gives("the ban stays", 7, () -> x.count(9));
        x.pass();
        Due.gives("the positions began anew", 0, () -> x.reason(7, 2));
        x.pass();
        Due.gives("setRule(1) again", 1, () -> x.setRule(1));
        Due.gives("passes stay", 2, () -> x.count(6));
        x.setTurn(2);
        x.play(7);
        x.setTurn(1);
        Due.gives("the first of the new positions", 5, () -> x.reason(8, 1));
        Due.gives("setRule(0)", 1, () -> x.setRule(0));
        Due.gives("no reason with the rule 0", 0, () -> x.reason(8, 1));
        for (int rule : new int[] {-1, 2, Integer.MAX_VALUE}) {
            Due.throwsJust("setRule(" + rule + ")", ARGUMENT, () -> x.setRule(rule));
        }
        x.undo();
        Due.gives("the rule and the positions behind undo", "1 5", () -> x.count(10) + " " + x.reason(8, 1));
    }

    private static void promise22SetBonus() {
        RingStones x = banned(1);
        Due.gives("setBonus(99)", 0, () -> x.setBonus(99));
        Due.gives("setBonus(-99)", 99, () -> x.setBonus(-99));
        Due.gives("setBonus(-99) again", -99, () -> x.setBonus(-99));
        Due.gives("bonus", -99, () -> x.count(11));
        Due.gives("the ban stays", 7, () -> x.count(9));
        x.pass();
        x.setBonus(1);
        Due.gives("passes stay", 1, () -> x.count(6));
        Due.gives("positions stay", 5, () -> x.reason(7, 2));
        for (int bonus : new int[] {-100, 100, Integer.MIN_VALUE, Integer.MAX_VALUE}) {
            Due.throwsJust("setBonus(" + bonus + ")", ARGUMENT, () -> x.setBonus(bonus));
        }
        x.undo();
        Due.gives("bonus behind undo", -99, () -> x.count(11));
    }
}
