import java.util.NoSuchElementException;

/** Section 2 and promises 13 to 22: a test of its own for each sentence of the document that names a boundary case. */
public final class MoveBoundsTest {
    private static final Class<IndexOutOfBoundsException> INDEX = IndexOutOfBoundsException.class;
    private static final Class<IllegalArgumentException> ARGUMENT = IllegalArgumentException.class;
    private static final Class<IllegalStateException> STATE = IllegalStateException.class;
    private static final int[] FAR = {Integer.MIN_VALUE, -64, -2, -1, 3, 64, Integer.MAX_VALUE};
    /** Black on place 2 captures the white stone on place 1, and white may not capture back there. */
    private static final String BAN = "row bwowooo;";

    public static void main(String[] args) {
        turns();
        captureOfSeveralChains();
        captureComesFirst();
        captureLeavesTheOthers();
        banOfOneStone();
        banOnPlaceZero();
        noBanWithoutACapture();
        noBanBehindTwoStones();
        noBanForALargerChain();
        noBanWithTwoFreedoms();
        banEndsWithAMove();
        banEndsWithAPass();
        banEndsWithSetStone();
        banEndsWithSetTurn();
        banEndsWithNothingElse();
        positionBehindLoad();
        positionBehindSetRule();
        positionBehindSetStone();
        positionsBehindMoves();
        passMakesNoPosition();
        thirtyPositions();
        ruleZero();
        refusedForTheFirstReason();
        bannedForTheTurnAlone();
        overBehindTwoPasses();
        passesNotInARow();
        reasonsArguments();
        playOfARefusedMove();
        playsAnswer();
        passesAnswer();
        movesSinceLoad();
        moveAnswersZeroWhenRefused();
        moveWithoutRegardToTheGame();
        movesOnFullAndEmptyBoards();
        greediestOfSeveral();
        greediestWithoutAMove();
        setStoneRefused();
        setStoneWithoutACapture();
        setStoneBeginsAnew();
        setTurnsRange();
        setRulesRange();
        setBonusRange();
        Due.end();
    }

    private static RingStones banned(int rule) {
        RingStones x = Due.board("board 1 7; rule " + rule + ";" + BAN);
        x.play(2);
        return x;
    }

    private static void reason(RingStones x, int place, int colour, int want) {
        Due.gives("reason(" + place + ", " + colour + ")", want, () -> x.reason(place, colour));
    }

    private static void turns() {
        Due.sentence("Black and white move in turn");
        RingStones x = Due.board("board 1 5; row ooooo;");
        x.play(0);
        Due.gives("stone and turn", "1 2", () -> x.stone(0) + " " + x.count(4));
        x.play(2);
        Due.gives("stone and turn", "2 1", () -> x.stone(2) + " " + x.count(4));
        x.pass();
        Due.gives("turn behind a pass", 2, () -> x.count(4));
    }

    private static void captureOfSeveralChains() {
        Due.sentence("Then all chains of the other colour without a freedom are taken away");
        RingStones x = Due.board("board 3 6; turn white; row owbwoo; row wbobwo; row owbwoo;");
        Due.gives("a stone in each direction", 4, () -> x.play(8));
        Due.gives("black stones, captured black stones", "0 4", () -> x.count(2) + " " + x.count(7));
        Due.gives("no ban behind four", -1, () -> x.count(9));
        RingStones all = Due.board(Due.text(5, 12, Due.put("b".repeat(60), 'o', 59)));
        all.setTurn(2);
        Due.gives("all stones but the new one", 59, () -> all.play(59));
        Due.gives("stones left", "0 1", () -> all.count(2) + " " + all.count(3));
    }

    private static void captureComesFirst() {
        Due.sentence("then the chain of the new stone must have a freedom");
        RingStones x = Due.board("board 1 3; row bbo;");
        reason(x, 2, 1, 4);
        reason(x, 2, 2, 0);
        RingStones two = Due.board("board 1 7;" + BAN);
        reason(two, 2, 1, 0);
        RingStones eye = Due.board("board 1 6; row wobobo;");
        reason(eye, 3, 2, 4);
        RingStones joined = Due.board("board 1 7; row bwowbob;");
        reason(joined, 2, 2, 4);
    }

    private static void captureLeavesTheOthers() {
        Due.sentence("(their stones are captured) - those with a freedom are not");
        RingStones x = Due.board("board 1 9; turn white; row wbobooboo;");
        Due.gives("only the chain without a freedom", 1, () -> x.play(2));
        Due.gives("the other black stones stay", "0 1 1", () -> x.stone(1) + " " + x.stone(3) + " " + x.stone(6));
        RingStones none = Due.board("board 1 6; row bwoooo;");
        Due.gives("a chain with a freedom left", 0, () -> none.play(3));
        Due.gives("white stones", 1, () -> none.count(3));
    }

    private static void ban(String rows, int place, int captured, int want) {
        RingStones x = Due.board(rows);
        Due.gives("captured on " + rows, captured, () -> x.play(place));
        Due.gives("the banned place on " + rows, want, () -> x.count(9));
    }

    private static void banOfOneStone() {
        Due.sentence("If a move captures just one stone, and the chain of the new stone consists of this stone alone and has"
            + " just one freedom then, the place of the captured stone is banned for the next move");
        ban("board 1 7;" + BAN, 2, 1, 1);
        ban("board 1 7; turn white; row wbobooo;", 2, 1, 1);
        ban("board 1 12; row woooooooobwo;", 11, 1, 10);
        RingStones x = banned(0);
        Due.throwsJust("play(1), the next move", STATE, () -> x.play(1));
    }

    private static void banOnPlaceZero() {
        Due.sentence("the place of the captured stone is banned for the next move (also place 0 and the last one)");
        ban("board 1 7; row wowooob;", 1, 1, 0);
        ban("board 1 7; row owooobw;", 0, 1, 6);
        RingStones x = Due.board("board 1 7; row wowooob;");
        x.play(1);
        reason(x, 0, 2, 3);
        Due.throwsJust("play(0)", STATE, () -> x.play(0));
        String letters = Due.put(Due.put("o".repeat(60), 'b', 47, 58), 'w', 36, 49, 59);
        ban(Due.text(5, 12, letters), 48, 1, 59);
    }

    private static void noBanWithoutACapture() {
        Due.sentence("If a move captures just one stone (none is too few)");
        ban("board 1 5; row wooow;", 1, 0, -1);
    }

    private static void noBanBehindTwoStones() {
        Due.sentence("If a move captures just one stone (two are too many)");
        ban("board 1 8; row bwwowooo;", 3, 2, -1);
    }

    private static void noBanForALargerChain() {
        Due.sentence("and the chain of the new stone consists of this stone alone");
        ban("board 1 8; row bwobwooo;", 2, 1, -1);
    }

    private static void noBanWithTwoFreedoms() {
        Due.sentence("and has just one freedom then");
        ban("board 1 7; row bwooooo;", 2, 1, -1);
    }

    private static void banEndsWithAMove() {
        Due.sentence("The ban ends with any next move");
        RingStones x = banned(0);
        x.play(5);
        Due.gives("the banned place", -1, () -> x.count(9));
        x.pass();
        reason(x, 1, 2, 0);
    }

    private static void banEndsWithAPass() {
        Due.sentence("The ban ends with any next pass");
        RingStones x = banned(0);
        x.pass();
        Due.gives("the banned place", -1, () -> x.count(9));
        x.play(5);
        reason(x, 1, 2, 0);
    }

    private static void banEndsWithSetStone() {
        Due.sentence("The ban ends with setStone: No place is banned then");
        RingStones x = banned(0);
        x.setStone(5, 0);
        Due.gives("the banned place", -1, () -> x.count(9));
        reason(x, 1, 2, 0);
    }

    private static void banEndsWithSetTurn() {
        Due.sentence("The ban ends with setTurn: No place is banned then");
        RingStones x = banned(0);
        x.setTurn(2);
        Due.gives("the banned place", -1, () -> x.count(9));
        reason(x, 1, 2, 0);
        RingStones other = banned(0);
        other.setTurn(1);
        Due.gives("the banned place for the other turn", -1, () -> other.count(9));
    }

    private static void banEndsWithNothingElse() {
        Due.sentence("The ban ends with any next move or pass, with setStone and with setTurn (not with setRule, setBonus, save"
            + " and refused calls)");
        RingStones x = banned(0);
        x.setRule(1);
        x.setBonus(7);
        x.save(0);
        Due.throwsJust("play(1)", STATE, () -> x.play(1));
        Due.throwsJust("setStone(1, 2)", STATE, () -> x.setStone(1, 2));
        Due.throwsJust("setTurn(0)", ARGUMENT, () -> x.setTurn(0));
        Due.gives("a text with an error", -2, () -> Due.load(x, "board"));
        reason(x, 1, 2, 3);
    }

    /** White's stone on place 1 would bring back the stones before black's on place 2. */
    private static void captureBack(RingStones x, int want) {
        x.setTurn(2);
        reason(x, 1, 2, want);
    }

    private static void positionBehindLoad() {
        Due.sentence("The positions are the stones as they lie behind the latest load");
        captureBack(banned(1), 5);
        RingStones again = banned(1);
        Due.load(again, "board 1 7; rule 1; row bobwooo;");
        captureBack(again, 0);
        Due.load(again, "board 1 6; rule 1; row bowoow;");
        Due.load(again, "board 1 6; rule 1; turn white; row bowooo;");
        reason(again, 5, 2, 0);
    }

    private static void positionBehindSetRule() {
        Due.sentence("The positions are the stones as they lie behind the latest setRule");
        RingStones x = Due.board("board 1 7;" + BAN);
        x.setRule(1);
        x.play(2);
        captureBack(x, 5);
        RingStones again = banned(1);
        again.setRule(1);
        captureBack(again, 0);
    }

    private static void positionBehindSetStone() {
        Due.sentence("The positions are the stones as they lie behind the latest setStone");
        RingStones x = Due.board("board 1 7; rule 1;" + BAN);
        x.setStone(5, 1);
        x.play(2);
        captureBack(x, 5);
        RingStones again = banned(1);
        again.setStone(2, 1);
        captureBack(again, 0);
        RingStones before = Due.board("board 1 6; rule 1; row bowoow;");
        before.setStone(5, 0);
        reason(before, 5, 2, 0);
        before.play(3);
        before.setStone(3, 0);
        reason(before, 3, 1, 0);
    }

    private static void positionsBehindMoves() {
        Due.sentence("and those behind each move since then");
        RingStones x = Due.board("board 1 7; rule 1; turn white; row bwooooo;");
        x.play(3);
        x.play(2);
        captureBack(x, 5);
        x.play(5);
        Due.gives("those stones with one stone more", 0, () -> x.reason(1, 2));
    }

    /**
     * White captures a board that black has filled but for its last place, and black fills it again, in the end
     * capturing the white stones: answers the reason of black's last move, the one that brings back the first stones.
     */
    private static int reasonBehindCircle(boolean longer, boolean passes) {
        RingStones x = Due.board("board 5 6; rule 1; turn white; row bbbbbb; row bbbbbb; row bbbbbb; row bbbbbb; row bbbbbo;");
        Due.gives("captured", 29, () -> x.play(29));
        if (longer) {
            x.setTurn(2);
            x.play(0);
        }
        for (int place = 1; place < 28; place++) {
            x.play(place);
            toBlack(x, passes);
        }
        x.play(0);
        toBlack(x, passes);
        Due.gives("moves", longer ? 30 : 29, () -> x.count(5));
        return x.reason(28, 1);
    }

    private static void toBlack(RingStones x, boolean passes) {
        if (passes) {
            x.pass();
        } else {
            x.setTurn(1);
        }
    }

    private static void passMakesNoPosition() {
        Due.sentence("a pass makes no position");
        Due.gives("behind 30 positions and 28 passes", 5, () -> reasonBehindCircle(false, true));
    }

    private static void thirtyPositions() {
        Due.sentence("a move may not lead to stones that lie as in one of the latest 30 positions");
        Due.gives("the 30th latest position", 5, () -> reasonBehindCircle(false, false));
        Due.gives("the 31st latest position", 0, () -> reasonBehindCircle(true, false));
        RingStones latest = banned(1);
        captureBack(latest, 5);
    }

    private static void ruleZero() {
        Due.sentence("There is a rule for repetitions, 0 or 1. 5 the rule is 1");
        captureBack(banned(0), 0);
        captureBack(banned(1), 5);
    }

    private static void refusedForTheFirstReason() {
        Due.sentence("A move is refused for the first of these reasons");
        RingStones x = banned(1);
        Due.gives("3 before 5", 3, () -> x.reason(1, 2));
        x.setTurn(2);
        Due.gives("5", 5, () -> x.reason(1, 2));
        Due.gives("2", 2, () -> x.reason(0, 2));
        x.pass();
        Due.gives("5 behind one pass", 5, () -> x.reason(1, 2));
        x.pass();
        Due.gives("1 before 5", 1, () -> x.reason(1, 2));
        Due.gives("1 before 2", 1, () -> x.reason(0, 2));
        RingStones full = Due.board("board 1 3; rule 1; row bbo;");
        Due.gives("4", 4, () -> full.reason(2, 1));
        full.pass();
        full.pass();
        Due.gives("1 before 4", 1, () -> full.reason(2, 1));
    }

    private static void bannedForTheTurnAlone() {
        Due.sentence("3 the place is banned, and the colour is the one whose turn it is");
        RingStones x = banned(0);
        reason(x, 1, 2, 3);
        reason(x, 1, 1, 0);
        reason(x, 4, 2, 0);
    }

    private static void overBehindTwoPasses() {
        Due.sentence("1 two passes in a row have been made (the game is over)");
        RingStones x = new RingStones();
        reason(x, 0, 1, 0);
        x.pass();
        reason(x, 0, 1, 0);
        reason(x, 0, 2, 0);
        x.pass();
        reason(x, 0, 1, 1);
        reason(x, 0, 2, 1);
        Due.throwsJust("a third pass", STATE, x::pass);
        Due.gives("passes", 2, () -> x.count(6));
    }

    private static void passesNotInARow() {
        Due.sentence("two passes in a row (a move between them, setTurn and setStone end the row, setRule and setBonus do not)");
        RingStones x = Due.board("board 1 5; row ooooo;");
        x.pass();
        x.play(0);
        Due.gives("a pass behind a move", 1, x::pass);
        x.setTurn(1);
        Due.gives("a pass behind setTurn", 1, x::pass);
        x.setStone(3, 0);
        Due.gives("a pass behind setStone", 1, x::pass);
        x.setRule(1);
        x.setBonus(1);
        Due.gives("a pass behind setRule and setBonus", 2, x::pass);
    }

    private static void reasonsArguments() {
        Due.sentence("reason: the place does not exist; colour is out of range");
        RingStones x = new RingStones();
        reason(x, 2, 2, 0);
        Due.throwsJust("reason(0, 0)", ARGUMENT, () -> x.reason(0, 0));
        for (int far : FAR) {
            Due.throwsJust("reason(" + far + ", 1)", INDEX, () -> x.reason(far, 1));
            Due.throwsJust("reason(0, " + far + ")", ARGUMENT, () -> x.reason(0, far));
        }
    }

    private static void refusedPlay(String why, RingStones x, int place) {
        String before = Due.state(x);
        Due.throwsJust("play(" + place + "), " + why, STATE, () -> x.play(place));
        Due.gives("nothing changed, " + why, before, () -> Due.state(x));
    }

    private static void playOfARefusedMove() {
        Due.sentence("IllegalStateException if the move is refused");
        RingStones x = banned(1);
        refusedPlay("2", x, 0);
        refusedPlay("3", x, 1);
        x.setTurn(2);
        refusedPlay("5", x, 1);
        x.pass();
        x.pass();
        refusedPlay("1", x, 5);
        refusedPlay("4", Due.board("board 1 3; row bbo;"), 2);
        RingStones out = new RingStones();
        Due.gives("the last place", 0, () -> out.play(2));
        for (int far : FAR) {
            Due.throwsJust("play(" + far + ")", INDEX, () -> out.play(far));
        }
    }

    private static void playsAnswer() {
        Due.sentence("Returns the number of captured stones");
        RingStones x = Due.board("board 1 6; row bwoooo;");
        Due.gives("none", 0, () -> x.play(4));
        x.setTurn(1);
        Due.gives("one", 1, () -> x.play(2));
        Due.gives("captured", "0 1", () -> x.count(7) + " " + x.count(8));
    }

    private static void passesAnswer() {
        Due.sentence("Returns the passes in a row; IllegalStateException if the game is over");
        RingStones x = new RingStones();
        Due.gives("the first", 1, x::pass);
        Due.gives("the second", 2, x::pass);
        String before = Due.state(x);
        Due.throwsJust("the third", STATE, x::pass);
        Due.gives("nothing changed", before, () -> Due.state(x));
        x.setTurn(2);
        Due.gives("the first again", 1, x::pass);
    }

    private static void movesSinceLoad() {
        Due.sentence("5: moves since the latest load; 7: captured black stones; 8: captured white stones");
        RingStones x = banned(0);
        x.setStone(5, 2);
        x.setTurn(2);
        x.setRule(1);
        x.setBonus(1);
        x.pass();
        Due.answer(() -> x.play(0));
        Due.gives("no other call counts, none begins anew", "1 0 1", () -> x.count(5) + " " + x.count(7) + " " + x.count(8));
        Due.load(x, "board 1 3; row ooo;");
        Due.gives("behind load", "0 0 0", () -> x.count(5) + " " + x.count(7) + " " + x.count(8));
    }

    private static void moveAnswersZeroWhenRefused() {
        Due.sentence("2: the freedoms of this chain (0 if the move is refused for the reason 4)");
        RingStones x = Due.board("board 1 3; row bbo;");
        Due.gives("a full board", "0 3 0", () -> x.move(2, 1, 0) + " " + x.move(2, 1, 1) + " " + x.move(2, 1, 2));
        Due.gives("the capture of all", "2 1 2", () -> x.move(2, 2, 0) + " " + x.move(2, 2, 1) + " " + x.move(2, 2, 2));
        RingStones one = Due.board("board 1 9; row obwobbooo;");
        Due.gives("three other numbers", "1 3 2", () -> one.move(3, 1, 0) + " " + one.move(3, 1, 1) + " " + one.move(3, 1, 2));
        Due.gives("none captured", "0 1 2", () -> one.move(7, 1, 0) + " " + one.move(7, 1, 1) + " " + one.move(7, 1, 2));
        Due.throwsJust("on a stone", STATE, () -> x.move(0, 2, 0));
        Due.throwsJust("what 3", ARGUMENT, () -> x.move(2, 2, 3));
        Due.throwsJust("what -1", ARGUMENT, () -> x.move(2, 2, -1));
        for (int far : FAR) {
            Due.throwsJust("move(" + far + ", 1, 0)", INDEX, () -> x.move(far, 1, 0));
            Due.throwsJust("move(2, " + far + ", 0)", ARGUMENT, () -> x.move(2, far, 0));
            Due.throwsJust("move(2, 1, " + far + ")", ARGUMENT, () -> x.move(2, 1, far));
        }
    }

    private static void moveWithoutRegardToTheGame() {
        Due.sentence("Nothing changes. (Bans, repetitions, the turn and the end of the game do not matter.)");
        RingStones x = banned(1);
        String before = Due.state(x);
        Due.gives("a banned place", "1 1 1", () -> x.move(1, 2, 0) + " " + x.move(1, 2, 1) + " " + x.move(1, 2, 2));
        Due.gives("nothing changed", before, () -> Due.state(x));
        x.setTurn(1);
        Due.gives("a repetition, not in turn", 1, () -> x.move(1, 2, 0));
        x.pass();
        x.pass();
        Due.gives("the game is over", 1, () -> x.move(1, 2, 0));
    }

    private static void movesOnFullAndEmptyBoards() {
        Due.sentence("Counts the places on which a move of a colour is not refused");
        RingStones empty = Due.board(Due.text(5, 12, "o".repeat(60)));
        Due.gives("an empty board", "60 60", () -> empty.moves(1) + " " + empty.moves(2));
        RingStones full = Due.board(Due.text(5, 12, Due.put("b".repeat(60), 'o', 59)));
        Due.gives("a full board but for one place", "0 1", () -> full.moves(1) + " " + full.moves(2));
        empty.pass();
        empty.pass();
        Due.gives("the game is over", "0 0", () -> empty.moves(1) + " " + empty.moves(2));
        RingStones ban = banned(1);
        Due.gives("but the banned place", "4 3", () -> ban.moves(1) + " " + ban.moves(2));
        ban.setTurn(2);
        Due.gives("but the repetition", "4 3", () -> ban.moves(1) + " " + ban.moves(2));
        Due.throwsJust("moves(0)", ARGUMENT, () -> full.moves(0));
        for (int far : FAR) {
            Due.throwsJust("moves(" + far + ")", ARGUMENT, () -> full.moves(far));
        }
    }

    private static void greediestOfSeveral() {
        Due.sentence("Returns the place, of several the lowest one");
        RingStones none = Due.board("board 1 5; row boooo;");
        Due.gives("none captures: the lowest place", "1 1", () -> none.greediest(1) + " " + none.greediest(2));
        RingStones all = Due.board(Due.text(5, 12, Due.put("b".repeat(60), 'o', 59)));
        Due.gives("the last place", 59, () -> all.greediest(2));
        RingStones two = Due.board("board 1 12; row obwobwoobwwo;");
        Due.gives("the most stones, on the last place", 11, () -> two.greediest(1));
        two.setStone(9, 0);
        Due.gives("as many on 3, 6 and 11: the lowest", 3, () -> two.greediest(1));
    }

    private static void greediestWithoutAMove() {
        Due.sentence("NoSuchElementException if no move is left that is not refused");
        RingStones full = Due.board("board 1 3; row bbo;");
        RingStones ban = banned(1);
        Due.gives("a banned capture", "4 4", () -> ban.greediest(1) + " " + ban.greediest(2));
        ban.setTurn(2);
        Due.gives("a repetition", 4, () -> ban.greediest(2));
        Due.throwsJust("without a freedom", NoSuchElementException.class, () -> full.greediest(1));
        Due.gives("one is left", 2, () -> full.greediest(2));
        full.pass();
        full.pass();
        Due.throwsJust("the game is over", NoSuchElementException.class, () -> full.greediest(2));
        Due.throwsJust("greediest(0)", ARGUMENT, () -> full.greediest(0));
        for (int far : FAR) {
            Due.throwsJust("greediest(" + far + ")", ARGUMENT, () -> full.greediest(far));
        }
    }

    private static void refusedStone(String why, RingStones x, int place, int colour) {
        String before = Due.state(x);
        Due.throwsJust("setStone(" + place + ", " + colour + "), " + why, STATE, () -> x.setStone(place, colour));
        Due.gives("nothing changed, " + why, before, () -> Due.state(x));
    }

    private static void setStoneRefused() {
        Due.sentence("IllegalStateException if a chain would have no freedom");
        refusedStone("the stone itself", Due.board("board 1 4; row bobo;"), 1, 2);
        refusedStone("the last place of the board", Due.board("board 1 3; row bbo;"), 2, 1);
        refusedStone("a chain of the same colour", Due.board("board 1 4; row wbow;"), 2, 1);
        refusedStone("a chain of the other colour", Due.board("board 1 5; row bwobo;"), 2, 1);
        refusedStone("in place of another stone", Due.board("board 1 5; row bbboo;"), 1, 2);
        refusedStone("a neighbour, in place of another stone", Due.board("board 1 4; row wbbo;"), 2, 2);
        RingStones x = new RingStones();
        Due.throwsJust("setStone(0, -1)", ARGUMENT, () -> x.setStone(0, -1));
        Due.gives("the last place", 0, () -> x.setStone(2, 0));
        for (int far : FAR) {
            Due.throwsJust("setStone(" + far + ", 1)", INDEX, () -> x.setStone(far, 1));
            Due.throwsJust("setStone(0, " + far + ")", ARGUMENT, () -> x.setStone(0, far));
        }
    }

    private static void setStoneWithoutACapture() {
        Due.sentence("Puts a stone on a place or takes it away, without a capture. Returns what was on it before");
        RingStones x = Due.board("board 1 3; row bbo;");
        refusedStone("though a move would capture", x, 2, 2);
        Due.gives("takes a stone away", 1, () -> x.setStone(0, 0));
        Due.gives("where none is", 0, () -> x.setStone(0, 0));
        Due.gives("another colour", 1, () -> x.setStone(1, 2));
        Due.gives("the same colour", 2, () -> x.setStone(1, 2));
        Due.gives("captured", "0 0", () -> x.count(7) + " " + x.count(8));
    }

    private static void setStoneBeginsAnew() {
        Due.sentence("No place is banned then, the positions begin anew (section 2), and there are no passes in a row");
        RingStones ban = banned(1);
        ban.setStone(2, 1);
        Due.gives("ban and reason", "-1 0", () -> ban.count(9) + " " + ban.reason(1, 2));
        ban.pass();
        ban.pass();
        ban.setStone(2, 1);
        Due.gives("passes", 0, () -> ban.count(6));
        Due.gives("a move of the game that goes on", 0, () -> ban.play(4));
    }

    private static void setTurnsRange() {
        Due.sentence("Returns the colour whose turn it was; IllegalArgumentException if colour is out of range");
        RingStones x = new RingStones();
        Due.gives("setTurn(2)", 1, () -> x.setTurn(2));
        Due.gives("setTurn(2)", 2, () -> x.setTurn(2));
        Due.throwsJust("setTurn(0)", ARGUMENT, () -> x.setTurn(0));
        for (int far : FAR) {
            Due.throwsJust("setTurn(" + far + ")", ARGUMENT, () -> x.setTurn(far));
        }
        Due.gives("setTurn(1)", 2, () -> x.setTurn(1));
    }

    private static void setRulesRange() {
        Due.sentence("Returns the previous rule; IllegalArgumentException if rule is out of range");
        RingStones x = new RingStones();
        Due.gives("setRule(1)", 0, () -> x.setRule(1));
        Due.gives("setRule(1)", 1, () -> x.setRule(1));
        Due.throwsJust("setRule(2)", ARGUMENT, () -> x.setRule(2));
        for (int far : FAR) {
            Due.throwsJust("setRule(" + far + ")", ARGUMENT, () -> x.setRule(far));
        }
        Due.gives("setRule(0)", 1, () -> x.setRule(0));
    }

    private static void setBonusRange() {
        Due.sentence("bonus: -99 to 99. Returns the previous bonus; IllegalArgumentException if bonus is out of range");
        RingStones x = new RingStones();
        Due.gives("setBonus(99)", 0, () -> x.setBonus(99));
        Due.throwsJust("setBonus(100)", ARGUMENT, () -> x.setBonus(100));
        Due.gives("setBonus(-99)", 99, () -> x.setBonus(-99));
        Due.throwsJust("setBonus(-100)", ARGUMENT, () -> x.setBonus(-100));
        Due.throwsJust("setBonus(least)", ARGUMENT, () -> x.setBonus(Integer.MIN_VALUE));
        Due.throwsJust("setBonus(most)", ARGUMENT, () -> x.setBonus(Integer.MAX_VALUE));
        Due.gives("setBonus(0)", -99, () -> x.setBonus(0));
    }
}
