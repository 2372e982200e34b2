/** Promises 33 to 38: written rings, undo and slots. */
public final class UndoTest {
    private static final Class<IndexOutOfBoundsException> INDEX = IndexOutOfBoundsException.class;
    private static final Class<IllegalStateException> STATE = IllegalStateException.class;
    private static final String BOARD = "board 3 6; rule 1; row obwooo; row bwowoo; row obwooo;";

    public static void main(String[] args) {
        promise33WriteRing();
        promise34WrittenByte();
        promise35EveryChange();
        promise35EightChanges();
        promise35WhatStays();
        promise36Save();
        promise37Restore();
        promise38Differing();
        Due.end();
    }

    private static String written(RingStones x, int length) {
        StringBuilder text = new StringBuilder();
        for (int i = 0; i < length; i++) {
            text.append((char) x.writtenByte(i));
        }
        return text.toString();
    }

    private static void promise33WriteRing() {
        RingStones x = Due.board(BOARD);
        x.play(8);
        String[] want = {"obwooo", "bxbwoo", "obwooo"};
        for (int ring = 0; ring < 3; ring++) {
            int number = ring;
            Due.gives("writeRing(" + ring + ")", 6, () -> x.writeRing(number));
            Due.gives("ring " + ring, want[ring], () -> written(x, 6));
        }
        x.pass();
        x.writeRing(1);
        Due.gives("no place is banned any more", "bobwoo", () -> written(x, 6));
        RingStones wide = Due.board("board 5 12; row oooooooooooo; row oooooooooooo; row oooooooooooo; row oooooooooooo;"
            + " row wbooooooooow;");
        Due.gives("writeRing(4)", 12, () -> wide.writeRing(4));
        Due.gives("ring 4", "wbooooooooow", () -> written(wide, 12));
        for (int ring : new int[] {-1, 3, Integer.MAX_VALUE}) {
            Due.throwsJust("writeRing(" + ring + ")", INDEX, () -> x.writeRing(ring));
        }
        Due.gives("an exception leaves the text", "bobwoo", () -> written(x, 6));
    }

    private static void promise34WrittenByte() {
        RingStones x = Due.board(BOARD);
        Due.throwsJust("writtenByte(0) at first", INDEX, () -> x.writtenByte(0));
        x.writeRing(1);
        Due.gives("writtenByte(0)", (int) 'b', () -> x.writtenByte(0));
        Due.gives("writtenByte(5)", (int) 'o', () -> x.writtenByte(5));
        for (int index : new int[] {6, -1, Integer.MAX_VALUE, Integer.MIN_VALUE}) {
            Due.throwsJust("writtenByte(" + index + ")", INDEX, () -> x.writtenByte(index));
        }
        x.play(8);
        Due.gives("the text stays as it was written", "bwowoo", () -> written(x, 6));
        Due.load(x, "board 1 3; row obo;");
        Due.gives("also behind load", "bwowoo", () -> written(x, 6));
        x.writeRing(0);
        Due.gives("a shorter text", "obo", () -> written(x, 3));
        Due.throwsJust("writtenByte(3) of three", INDEX, () -> x.writtenByte(3));
    }

    private static void undone(RingStones x, String change, Due.Call call) {
        String before = Due.state(x);
        call.run();
        Due.gives("undo behind " + change, 1, x::undo);
        Due.gives("everything behind undo of " + change, before, () -> Due.state(x));
    }

    private static void promise35EveryChange() {
        RingStones x = Due.board(BOARD);
        x.undo();
        x.save(1);
        Due.load(x, BOARD);
        undone(x, "play", () -> x.play(8));
        undone(x, "pass", x::pass);
        undone(x, "setStone", () -> x.setStone(5, 1));
        undone(x, "setTurn", () -> x.setTurn(2));
        undone(x, "setRule", () -> x.setRule(0));
        undone(x, "setBonus", () -> x.setBonus(-5));
        undone(x, "load", () -> Due.load(x, "board 1 3; row bwo;"));
        undone(x, "restore", () -> x.restore(1));
        x.play(8);
        x.setTurn(2);
        whitesCapture(x);
        String before = Due.state(x);
        x.setRule(1);
        Due.gives("other reasons", false, () -> before.equals(Due.state(x)));
        x.undo();
        Due.gives("the positions come back", before, () -> Due.state(x));
    }

    private static void whitesCapture(RingStones x) {
        x.setRule(1);
        String before = Due.state(x);
        x.play(7);
        Due.gives("a captured black stone", 1, () -> x.count(7));
        x.undo();
        Due.gives("everything behind undo of white's capture", before, () -> Due.state(x));
        x.undo();
    }

    private static void promise35EightChanges() {
        RingStones x = new RingStones();
        Due.throwsJust("undo() at first", STATE, x::undo);
        for (int bonus = 1; bonus <= 12; bonus++) {
            x.setBonus(bonus);
        }
        for (int left = 7; left >= 4; left--) {
            Due.gives("undo()", left, x::undo);
        }
        Due.gives("bonus", 8, () -> x.count(11));
        x.setBonus(50);
        for (int left = 4; left >= 0; left--) {
            Due.gives("undo()", left, x::undo);
        }
        Due.gives("older changes stay", 4, () -> x.count(11));
        Due.throwsJust("undo() of a ninth change", STATE, x::undo);
        Due.gives("bonus", 4, () -> x.count(11));
    }

    private static void promise35WhatStays() {
        RingStones x = Due.board(BOARD);
        x.play(8);
        x.writeRing(1);
        x.save(0);
        Due.append(x, "board 1 3; row oow;");
        Due.gives("undo()", 1, x::undo);
        Due.gives("the written text stays", "bxbwoo", () -> written(x, 6));
        Due.gives("the slot stays", 2, () -> x.differing(0));
        Due.gives("the text buffer stays", 1, () -> x.load(19));
        Due.throwsJust("restore(1) when nothing was saved", STATE, () -> x.restore(1));
        x.save(1);
        x.count(0);
        Due.gives("save and questions are no changes", 1, x::undo);
    }

    private static void promise36Save() {
        RingStones x = Due.board(BOARD);
        Due.gives("save(0)", 7, () -> x.save(0));
        x.play(8);
        Due.gives("save(1)", 7, () -> x.save(1));
        x.play(0);
        String before = Due.state(x);
        Due.gives("save(0) in place of what was there", 8, () -> x.save(0));
        Due.gives("save changes nothing", before, () -> Due.state(x));
        Due.gives("the other slot", 7, () -> x.restore(1));
        Due.gives("the newer one", 8, () -> x.restore(0));
        Due.gives("restored", before, () -> Due.state(x));
        for (int slot : new int[] {-1, 2, Integer.MAX_VALUE}) {
            Due.throwsJust("save(" + slot + ")", INDEX, () -> x.save(slot));
        }
    }

    private static void promise37Restore() {
        RingStones x = Due.board(BOARD);
        x.play(8);
        x.setBonus(-7);
        x.save(1);
        String saved = Due.state(x);
        x.play(0);
        x.setRule(0);
        Due.load(x, "board 1 3; bonus 3; row bwo;");
        String before = Due.state(x);
        Due.gives("restore(1)", 7, () -> x.restore(1));
        Due.gives("everything", saved, () -> Due.state(x));
        Due.gives("ban", 7, () -> x.count(9));
        x.pass();
        Due.gives("positions", 5, () -> x.reason(7, 2));
        x.undo();
        Due.gives("a change that can be undone", 6, x::undo);
        Due.gives("what was before", before, () -> Due.state(x));
        Due.gives("the slot keeps it", 7, () -> x.restore(1));
        x.setStone(0, 1);
        Due.gives("the slot is not changed with the board", 1, () -> x.differing(1));
        Due.throwsJust("restore(0) when nothing was saved", STATE, () -> x.restore(0));
        for (int slot : new int[] {-1, 2, Integer.MIN_VALUE}) {
            Due.throwsJust("restore(" + slot + ")", INDEX, () -> x.restore(slot));
        }
    }

    private static void promise38Differing() {
        RingStones x = Due.board("board 2 6; row bwoooo; row oooooo;");
        Due.gives("differing(0) when nothing was saved", -1, () -> x.differing(0));
        x.save(0);
        Due.gives("differing(0)", 0, () -> x.differing(0));
        Due.gives("differing(1)", -1, () -> x.differing(1));
        x.setStone(0, 2);
        Due.gives("another colour counts once", 1, () -> x.differing(0));
        x.setStone(1, 0);
        x.setStone(11, 1);
        Due.gives("three places", 3, () -> x.differing(0));
        x.setTurn(2);
        x.setBonus(5);
        Due.gives("only stones count", 3, () -> x.differing(0));
        Due.load(x, "board 3 4; row bwoo; row oooo; row oooo;");
        Due.gives("as many places in other rings", -1, () -> x.differing(0));
        Due.load(x, "board 2 7; row bwooooo; row ooooooo;");
        Due.gives("other sectors", -1, () -> x.differing(0));
        Due.load(x, "board 3 6; row bwoooo; row oooooo; row oooooo;");
        Due.gives("other rings", -1, () -> x.differing(0));
        Due.load(x, "board 2 6; row bwoooo; row ooooow;");
        Due.gives("the same rings and sectors again", 1, () -> x.differing(0));
        for (int slot : new int[] {-1, 2, Integer.MAX_VALUE}) {
            Due.throwsJust("differing(" + slot + ")", INDEX, () -> x.differing(slot));
        }
    }
}
