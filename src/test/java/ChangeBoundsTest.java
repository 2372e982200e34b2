import java.util.NoSuchElementException;

/** Sections 7 and 8 and promises 35 to 38: a test of its own for each sentence that names a boundary case of changes. */
public final class ChangeBoundsTest {
    private static final Class<IndexOutOfBoundsException> INDEX = IndexOutOfBoundsException.class;
    private static final Class<IllegalArgumentException> ARGUMENT = IllegalArgumentException.class;
    private static final Class<IllegalStateException> STATE = IllegalStateException.class;
    private static final Class<NoSuchElementException> NO_ELEMENT = NoSuchElementException.class;
    private static final int[] FAR = {Integer.MIN_VALUE, -1, 2, 3, Integer.MAX_VALUE};
    /** Black on place 2 captures the white stone on place 1, and white may not capture back there. */
    private static final String BAN = "board 1 7; rule 1; row bwowooo;";

    public static void main(String[] args) {
        latestEight();
        noChangeToUndo();
        latestNotUndone();
        changesThatSucceed();
        changesOfNothing();
        callsThatAreNoChanges();
        refusedCallsAreNoChanges();
        undoBringsBackEverything();
        undoLeavesTheBuffer();
        undoLeavesThePositionOfTheError();
        undoLeavesTheWrittenText();
        undoLeavesTheSlots();
        saveInPlaceOfWhatWasThere();
        saveOfAnEmptyBoard();
        noSuchSlot();
        nothingWasSaved();
        restoreBringsBackEverything();
        restoreIsUndone();
        differingPlaces();
        differingBoards();
        exceptionNamedFirst();
        exceptionsChangeNothing();
        Due.end();
    }

    private static RingStones banned() {
        RingStones x = Due.board(BAN);
        x.play(2);
        return x;
    }

    // ---- undo

    private static void latestEight() {
        Due.sentence("The latest 8 changes can be undone, older ones cannot any more");
        for (int changes = 1; changes <= 20; changes++) {
            RingStones x = new RingStones();
            for (int bonus = 1; bonus <= changes; bonus++) {
                x.setBonus(bonus);
            }
            int most = Math.min(changes, 8);
            for (int left = most - 1; left >= 0; left--) {
                Due.gives("undo of one of " + changes, left, x::undo);
            }
            Due.gives("the bonus behind all", changes - most, () -> x.count(11));
            Due.throwsJust("one more", STATE, x::undo);
        }
    }

    private static void noChangeToUndo() {
        Due.sentence("undo: IllegalStateException if there is no change to undo");
        RingStones x = new RingStones();
        Due.throwsJust("at first", STATE, x::undo);
        x.pass();
        Due.gives("the only change", 0, x::undo);
        Due.throwsJust("behind it", STATE, x::undo);
        Due.throwsJust("again", STATE, x::undo);
        Due.gives("nothing changed", "0 1", () -> x.count(6) + " " + x.count(4));
    }

    private static void latestNotUndone() {
        Due.sentence("Undoes the latest change that has not been undone. Returns the number of changes that can still be undone");
        RingStones x = new RingStones();
        for (int bonus = 1; bonus <= 10; bonus++) {
            x.setBonus(bonus);
        }
        x.undo();
        x.undo();
        Due.gives("behind two of ten", 5, x::undo);
        Due.gives("bonus", 7, () -> x.count(11));
        x.setBonus(50);
        x.setBonus(60);
        Due.gives("bonus behind the latest", 6, x::undo);
        Due.gives("bonus", 50, () -> x.count(11));
        for (int left = 5; left >= 0; left--) {
            Due.gives("undo", left, x::undo);
        }
        Due.gives("the oldest of the eight", 2, () -> x.count(11));
        Due.throwsJust("older ones do not come back", STATE, x::undo);
    }

    private static void change(String name, RingStones x, Due.Call call) {
        Due.throwsJust("no change yet", STATE, x::undo);
        String before = everything(x);
        call.run();
        Due.gives("undo behind " + name, 0, x::undo);
        Due.gives("everything behind undo of " + name, before, () -> everything(x));
        Due.throwsJust("it was one change: " + name, STATE, x::undo);
    }

    private static void changesThatSucceed() {
        Due.sentence("The changes are all calls of load, play, pass, setStone, setTurn, setRule, setBonus and restore that succeed");
        RingStones x = new RingStones();
        x.save(1);
        change("play", x, () -> x.play(1));
        change("pass", x, x::pass);
        change("setStone", x, () -> x.setStone(1, 2));
        change("setTurn", x, () -> x.setTurn(2));
        change("setRule", x, () -> x.setRule(1));
        change("setBonus", x, () -> x.setBonus(-99));
        change("restore", x, () -> x.restore(1));
        RingStones y = new RingStones();
        change("load", y, () -> Due.load(y, "board 1 3;row bwo;"));
    }

    private static void changesOfNothing() {
        Due.sentence("all calls that succeed (also those that leave everything as it is)");
        RingStones x = new RingStones();
        change("setStone of none", x, () -> x.setStone(1, 0));
        change("setTurn of black", x, () -> x.setTurn(1));
        change("setRule of 0", x, () -> x.setRule(0));
        change("setBonus of 0", x, () -> x.setBonus(0));
    }

    private static void callsThatAreNoChanges() {
        Due.sentence("The changes are all calls of load, play, pass, setStone, setTurn, setRule, setBonus and restore (no others)");
        RingStones x = banned();
        x.append(0, 0, 0, 0, 0);
        x.save(0);
        x.writeRing(0);
        x.writtenByte(0);
        x.reason(5, 1);
        x.move(5, 1, 0);
        x.moves(1);
        x.greediest(1);
        x.caughtBy(0);
        x.differing(0);
        Due.gives("play and load alone can be undone", 1, x::undo);
    }

    private static void refusedCallsAreNoChanges() {
        Due.sentence("that succeed (a text with an error is no change)");
        RingStones x = banned();
        Due.answer(() -> x.play(1));
        Due.answer(() -> x.play(0));
        Due.answer(() -> x.play(7));
        Due.answer(() -> x.setStone(1, 2));
        Due.answer(() -> x.setStone(7, 1));
        Due.answer(() -> x.setTurn(3));
        Due.answer(() -> x.setRule(2));
        Due.answer(() -> x.setBonus(100));
        Due.answer(() -> x.restore(1));
        Due.answer(() -> x.restore(2));
        Due.answer(() -> x.load(1));
        Due.answer(() -> Due.load(x, "board 1 3;row bbb;"));
        Due.answer(() -> Due.load(x, "board 1 3;row boo"));
        Due.gives("play and load alone can be undone", 1, x::undo);
        x.pass();
        x.pass();
        Due.answer(x::pass);
        Due.gives("two passes and load", 2, x::undo);
    }

    private static void undoBringsBackEverything() {
        Due.sentence("undoing a change brings back everything as it was before it");
        RingStones x = banned();
        x.pass();
        Due.gives("the ban", "3 1", () -> {
            x.undo();
            return x.reason(1, 2) + " " + x.count(9);
        });
        x.undo();
        Due.gives("stones, moves, captured stones, turn", "bwowooo 0 0 1",
            () -> x.writeRing(0) == 7 ? Due.written(x) + " " + x.count(5) + " " + x.count(8) + " " + x.count(4) : "");
        x.play(2);
        x.setTurn(2);
        x.setRule(1);
        Due.gives("behind setRule", 0, () -> x.reason(1, 2));
        x.undo();
        Due.gives("the positions", 5, () -> x.reason(1, 2));
        x.play(5);
        x.setTurn(2);
        x.undo();
        x.undo();
        Due.gives("the positions behind a move", 5, () -> x.reason(1, 2));
        x.pass();
        x.pass();
        x.setTurn(1);
        x.undo();
        Due.gives("the passes", 2, () -> x.count(6));
        Due.load(x, "board 5 12;" + "row oooooooooooo;".repeat(5));
        x.undo();
        Due.gives("rings and sectors", "1 7", () -> x.count(0) + " " + x.count(1));
        RingStones y = Due.board("board 1 3; turn white; row bbo;");
        y.play(2);
        y.undo();
        Due.gives("captured black stones", 0, () -> y.count(7));
    }

    private static void undoLeavesTheBuffer() {
        Due.sentence("but not the text buffer");
        RingStones x = banned();
        Due.append(x, "board 1 3;row ooo;  ");
        x.undo();
        Due.gives("the bytes that were appended", 40, () -> x.append(0x20202020, 0x20202020, 0x20202020, 0x20202020, 0x20202020));
        Due.gives("load", 0, () -> x.load(40));
        x.undo();
        Due.throwsJust("the buffer does not come back with load", ARGUMENT, () -> x.load(1));
    }

    private static void undoLeavesThePositionOfTheError() {
        Due.sentence("but not the position of the error");
        RingStones x = banned();
        Due.load(x, "board 1 3?");
        x.undo();
        Due.gives("the position of an error", 9, x::errorPosition);
        Due.load(x, "board 1 3;row ooo;");
        x.undo();
        Due.gives("no error", -1, x::errorPosition);
    }

    private static void undoLeavesTheWrittenText() {
        Due.sentence("but not the written text");
        RingStones x = banned();
        x.writeRing(0);
        x.undo();
        Due.gives("the text", "bxbwooo", () -> Due.written(x));
    }

    private static void undoLeavesTheSlots() {
        Due.sentence("but not the slots");
        RingStones x = Due.board(BAN);
        x.play(2);
        x.save(0);
        x.undo();
        Due.gives("differing(0)", 2, () -> x.differing(0));
        x.restore(0);
        x.undo();
        Due.gives("differing(0) behind a restore that was undone", 2, () -> x.differing(0));
    }

    // ---- slots

    private static void saveInPlaceOfWhatWasThere() {
        Due.sentence("Saves everything that undo would bring back in a slot, in place of what was there. This is no change");
        RingStones x = Due.board(BAN);
        Due.gives("save(0)", 3, () -> x.save(0));
        Due.gives("save(1)", 3, () -> x.save(1));
        x.play(2);
        x.play(5);
        Due.gives("save(1) again", 4, () -> x.save(1));
        Due.gives("the slots", "3 0", () -> x.differing(0) + " " + x.differing(1));
        Due.gives("save is no change", 2, x::undo);
        Due.gives("restore(0)", 3, () -> x.restore(0));
        Due.gives("restore(1)", 4, () -> x.restore(1));
    }

    private static void saveOfAnEmptyBoard() {
        Due.sentence("Returns the number of stones (none, and as many as can be)");
        RingStones x = new RingStones();
        Due.gives("save of none", 0, () -> x.save(1));
        Due.gives("restore of none", 0, () -> x.restore(1));
        Due.gives("differing", 0, () -> x.differing(1));
        RingStones full = Due.board(Due.text(5, 12, "b".repeat(59) + "o"));
        Due.gives("save of 59", 59, () -> full.save(0));
        Due.gives("restore of 59", 59, () -> full.restore(0));
    }

    private static void noSuchSlot() {
        Due.sentence("IndexOutOfBoundsException if there is no such slot");
        RingStones x = new RingStones();
        for (int far : FAR) {
            Due.throwsJust("save(" + far + ")", INDEX, () -> x.save(far));
            Due.throwsJust("restore(" + far + ")", INDEX, () -> x.restore(far));
            Due.throwsJust("differing(" + far + ")", INDEX, () -> x.differing(far));
        }
        Due.gives("the last slot", 0, () -> x.save(1));
    }

    private static void nothingWasSaved() {
        Due.sentence("restore: IllegalStateException if nothing was saved there");
        RingStones x = banned();
        Due.throwsJust("restore(0)", STATE, () -> x.restore(0));
        Due.throwsJust("restore(1)", STATE, () -> x.restore(1));
        x.save(1);
        Due.throwsJust("restore(0) behind save(1)", STATE, () -> x.restore(0));
        Due.gives("restore(1)", 3, () -> x.restore(1));
    }

    private static void restoreBringsBackEverything() {
        Due.sentence("Brings back what was saved in a slot, which keeps it");
        RingStones x = banned();
        x.setBonus(-7);
        x.save(0);
        String saved = Due.state(x);
        x.pass();
        x.save(1);
        String passed = Due.state(x);
        Due.load(x, "board 2 4; row boow; row oooo;");
        x.setRule(1);
        for (int i = 0; i < 3; i++) {
            Due.gives("restore(0)", 3, () -> x.restore(0));
            Due.gives("everything of slot 0", saved, () -> Due.state(x));
            x.setStone(5, 1);
            Due.gives("restore(1)", 3, () -> x.restore(1));
            Due.gives("everything of slot 1", passed, () -> Due.state(x));
            x.play(5);
        }
        x.restore(1);
        x.pass();
        Due.gives("the passes of slot 1", 2, () -> x.count(6));
        x.restore(0);
        x.setTurn(2);
        Due.gives("the positions of slot 0", 5, () -> x.reason(1, 2));
    }

    private static void restoreIsUndone() {
        Due.sentence("a restore can be undone (the changes before it too)");
        RingStones x = new RingStones();
        x.setBonus(1);
        x.setBonus(2);
        x.setBonus(3);
        x.save(0);
        x.setBonus(4);
        x.restore(0);
        Due.gives("undo of restore", 4, x::undo);
        Due.gives("bonus", 4, () -> x.count(11));
        Due.gives("undo of the change before", 3, x::undo);
        Due.gives("bonus", 3, () -> x.count(11));
    }

    private static void differingPlaces() {
        Due.sentence("Counts the places on which the stones differ from those that were saved in a slot");
        RingStones x = new RingStones();
        x.save(0);
        Due.gives("none", 0, () -> x.differing(0));
        x.setStone(2, 2);
        Due.gives("the last place", 1, () -> x.differing(0));
        x.save(1);
        x.setStone(2, 1);
        Due.gives("of another colour", 1, () -> x.differing(1));
        RingStones all = Due.board(Due.text(5, 12, "b".repeat(59) + "o"));
        all.save(0);
        Due.load(all, Due.text(5, 12, "o" + "w".repeat(59)));
        Due.gives("all places", 60, () -> all.differing(0));
        all.setTurn(2);
        all.setRule(1);
        all.setBonus(5);
        Due.gives("nothing but stones counts", 60, () -> all.differing(0));
    }

    private static void differingBoards() {
        Due.sentence("NONE if nothing was saved there, or the board has other rings or sectors");
        RingStones x = Due.board("board 2 6; row oooooo; row oooooo;");
        Due.gives("nothing was saved", "-1 -1", () -> x.differing(0) + " " + x.differing(1));
        x.save(0);
        Due.gives("nothing was saved in the other slot", "0 -1", () -> x.differing(0) + " " + x.differing(1));
        int[][] others = {{1, 6}, {3, 6}, {2, 5}, {2, 7}, {3, 4}, {4, 3}, {1, 12}};
        for (int[] size : others) {
            Due.load(x, Due.text(size[0], size[1], "o".repeat(size[0] * size[1])));
            Due.gives(size[0] + " rings of " + size[1], -1, () -> x.differing(0));
        }
        Due.load(x, "board 2 6; row bwoooo; row oooooo;");
        Due.gives("the same rings and sectors", 2, () -> x.differing(0));
    }

    // ---- exceptions

    private static void exceptionNamedFirst() {
        Due.sentence("If several exceptions apply, the one named first is thrown");
        RingStones x = banned();
        Due.throwsJust("neighbour: the place", INDEX, () -> x.neighbour(7, 4));
        Due.throwsJust("chain: the place", INDEX, () -> x.chain(7, 5));
        Due.throwsJust("chain: the number", ARGUMENT, () -> x.chain(1, 5));
        Due.throwsJust("weakest: the colour", ARGUMENT, () -> new RingStones().weakest(3));
        Due.throwsJust("reason: the place", INDEX, () -> x.reason(7, 3));
        Due.throwsJust("move: the place", INDEX, () -> x.move(7, 3, 3));
        Due.throwsJust("move: the colour", ARGUMENT, () -> x.move(0, 3, 0));
        Due.throwsJust("move: the number", ARGUMENT, () -> x.move(0, 1, 3));
        Due.throwsJust("setStone: the place", INDEX, () -> x.setStone(7, 3));
        Due.throwsJust("setStone: the colour", ARGUMENT, () -> x.setStone(1, 3));
        Due.throwsJust("pool: the place", INDEX, () -> x.pool(7, 5));
        Due.throwsJust("pool: the number", ARGUMENT, () -> x.pool(0, 5));
        Due.throwsJust("restore: the slot", INDEX, () -> new RingStones().restore(2));
        x.pass();
        x.pass();
        Due.throwsJust("play: the place", INDEX, () -> x.play(7));
        Due.throwsJust("greediest: the colour", ARGUMENT, () -> x.greediest(3));
    }

    /** All that can be asked without a change, also what undo leaves alone but for the bytes of the buffer. */
    private static String everything(RingStones x) {
        return Due.state(x) + x.errorPosition() + " " + Due.written(x) + " " + x.differing(0) + " " + x.differing(1);
    }

    private static void unchanged(RingStones x, String what, Class<? extends RuntimeException> want, Due.Call call) {
        String before = everything(x);
        Due.throwsJust(what, want, call);
        Due.gives("nothing changed by " + what, before, () -> everything(x));
    }

    private static void exceptionsChangeNothing() {
        Due.sentence("A method that throws an exception changes nothing");
        RingStones x = banned();
        Due.load(x, "board 1 ?");
        x.save(0);
        x.writeRing(0);
        Due.append(x, "board 1 3;row bwo;  ");
        refusedQuestions(x);
        refusedChanges(x);
        x.pass();
        x.pass();
        unchanged(x, "play when the game is over", STATE, () -> x.play(5));
        unchanged(x, "a third pass", STATE, x::pass);
        unchanged(x, "greediest when the game is over", NO_ELEMENT, () -> x.greediest(1));
        Due.gives("the changes", 3, x::undo);
        Due.gives("the buffer", 2, () -> x.load(20));
        Due.append(x, " ".repeat(300));
        unchanged(x, "append", STATE, () -> x.append(0, 0, 0, 0, 0));
        Due.gives("the bytes of a full buffer", "-2 300", () -> x.load(300) + " " + x.errorPosition());
    }

    private static void refusedQuestions(RingStones x) {
        unchanged(x, "count", ARGUMENT, () -> x.count(12));
        unchanged(x, "place", INDEX, () -> x.place(1, 0));
        unchanged(x, "neighbour", ARGUMENT, () -> x.neighbour(0, 4));
        unchanged(x, "stone", INDEX, () -> x.stone(7));
        unchanged(x, "chain", NO_ELEMENT, () -> x.chain(1, 0));
        unchanged(x, "freedom", INDEX, () -> x.freedom(0, 9));
        unchanged(x, "chains", ARGUMENT, () -> x.chains(0, 0));
        unchanged(x, "weakest", ARGUMENT, () -> x.weakest(0));
        unchanged(x, "reason", ARGUMENT, () -> x.reason(0, 0));
        unchanged(x, "move", STATE, () -> x.move(0, 1, 0));
        unchanged(x, "moves", ARGUMENT, () -> x.moves(0));
        unchanged(x, "pools", ARGUMENT, () -> x.pools(4));
        unchanged(x, "pool", NO_ELEMENT, () -> x.pool(0, 0));
        unchanged(x, "isSharedEye", INDEX, () -> x.isSharedEye(7));
        unchanged(x, "isStandoff", INDEX, () -> x.isStandoff(7));
        unchanged(x, "isAlive", INDEX, () -> x.isAlive(7));
        unchanged(x, "alive", ARGUMENT, () -> x.alive(3));
        unchanged(x, "caughtBy", NO_ELEMENT, () -> x.caughtBy(1));
        unchanged(x, "area", ARGUMENT, () -> x.area(0));
        unchanged(x, "share", ARGUMENT, () -> x.share(0));
        unchanged(x, "writeRing", INDEX, () -> x.writeRing(1));
        unchanged(x, "writtenByte", INDEX, () -> x.writtenByte(7));
        unchanged(x, "differing", INDEX, () -> x.differing(2));
    }

    private static void refusedChanges(RingStones x) {
        unchanged(x, "load", ARGUMENT, () -> x.load(21));
        unchanged(x, "play of a banned place", STATE, () -> x.play(1));
        unchanged(x, "play on a stone", STATE, () -> x.play(0));
        unchanged(x, "play", INDEX, () -> x.play(7));
        unchanged(x, "setStone", STATE, () -> x.setStone(1, 2));
        unchanged(x, "setTurn", ARGUMENT, () -> x.setTurn(0));
        unchanged(x, "setRule", ARGUMENT, () -> x.setRule(2));
        unchanged(x, "setBonus", ARGUMENT, () -> x.setBonus(100));
        unchanged(x, "save", INDEX, () -> x.save(2));
        unchanged(x, "restore", STATE, () -> x.restore(1));
        RingStones none = new RingStones();
        unchanged(none, "undo", STATE, none::undo);
    }
}
