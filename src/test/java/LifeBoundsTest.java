import java.util.NoSuchElementException;

/** Sections 3 to 6 and promises 23 to 32: a test of its own for each sentence of the document that names a boundary case. */
public final class LifeBoundsTest {
    private static final Class<IndexOutOfBoundsException> INDEX = IndexOutOfBoundsException.class;
    private static final Class<IllegalArgumentException> ARGUMENT = IllegalArgumentException.class;
    private static final int[] FAR = {Integer.MIN_VALUE, -64, -2, 64, Integer.MAX_VALUE};

    public static void main(String[] args) {
        poolOfAWholeBoard();
        poolOfOnePlace();
        poolOverTheEnd();
        poolAcrossRings();
        ownersAsAMask();
        poolsWithJustTheseOwners();
        poolsArguments();
        poolsNumbers();
        poolOnAStone();
        sharedEyeOfTwoChains();
        sharedEyeOfOneOwner();
        sharedEyesPlaces();
        standoffOfBothOwners();
        standoffWithOneFreedomEach();
        standoffBehindCaptures();
        standoffWithoutRegardToTheGame();
        standoffsPlaces();
        regionWithOtherStones();
        vitalRegionWholly();
        twoVitalRegions();
        leftOutAgainAndAgain();
        regionsBesideAChainLeftOut();
        aliveOnEmptyPlaces();
        aliveOfNone();
        caughtByOne();
        caughtByRefusedEscape();
        caughtByTwoBehindAnEscape();
        catchersMoveRefused();
        caughtOfTwoFreedomsAtMost();
        caughtWithAllThatJoined();
        caughtThoughItCouldCapture();
        caughtByEightAtMost();
        caughtWithoutRegardToTheGame();
        caughtOnAnEmptyPlace();
        areaOfOnlyOwners();
        scoreWithTheBonus();
        shareOfAllPlaces();
        Due.end();
    }

    private static RingStones full(int hole) {
        return Due.board(Due.text(5, 12, Due.put("b".repeat(60), 'o', hole)));
    }

    private static String numbers(RingStones x, int place) {
        StringBuilder all = new StringBuilder();
        for (int what = 0; what < 5; what++) {
            all.append(what > 0 ? " " : "").append(x.pool(place, what));
        }
        return all.toString();
    }

    // ---- pools

    private static void poolOfAWholeBoard() {
        Due.sentence("A pool consists of all places that can be reached from an empty place over empty neighbours (all)");
        for (int rings = 1; rings <= 5; rings++) {
            for (int sectors = 3; sectors <= 12; sectors++) {
                int places = rings * sectors;
                RingStones x = Due.board(Due.text(rings, sectors, "o".repeat(places)));
                Due.gives("the pool of the last of " + places, "0 " + places + " 0 0 0", () -> numbers(x, places - 1));
                Due.gives("pools", "1 1 0 0 0", () -> x.pools(-1) + " " + x.pools(0) + " " + x.pools(1) + " " + x.pools(2)
                    + " " + x.pools(3));
            }
        }
    }

    private static void poolOfOnePlace() {
        Due.sentence("A pool consists of all places that can be reached from an empty place (one)");
        for (int hole : new int[] {0, 11, 12, 30, 48, 59}) {
            RingStones x = full(hole);
            Due.gives("the pool of " + hole, hole + " 1 1 1 0", () -> numbers(x, hole));
            Due.gives("pools", 1, () -> x.pools(-1));
        }
    }

    private static void poolOverTheEnd() {
        Due.sentence("It is told by its lowest place (also over the end of a ring)");
        RingStones x = Due.board("board 1 6; row oobwwo;");
        Due.gives("the pool of the last place", "0 3 3 1 1", () -> numbers(x, 5));
        RingStones outer = Due.board("board 2 5; row bbbbb; row obbbo;");
        Due.gives("the pool of the outer ring's last place", "5 2 1 1 0", () -> numbers(outer, 9));
    }

    private static void poolAcrossRings() {
        Due.sentence("that can be reached over empty neighbours (and over no others)");
        RingStones x = Due.board("board 2 4; row obbo; row bbbb;");
        Due.gives("the last place and the first of one ring", "0 2 1 1 0", () -> numbers(x, 3));
        RingStones apart = Due.board("board 2 4; row bbbo; row obbb;");
        Due.gives("the last of a ring and the first of the next", "3 4", () -> apart.pool(3, 0) + " " + apart.pool(4, 0));
    }

    private static void ownersAsAMask() {
        Due.sentence("Its owners are the colours of the stones that are neighbours of its places, as a bit mask: 1 for black, 2"
            + " for white");
        String[] rows = {"oooo", "booo", "wooo", "bwoo"};
        for (int owners = 0; owners < 4; owners++) {
            int mask = owners;
            RingStones x = Due.board("board 1 4; row " + rows[owners] + ";");
            Due.gives("the owners on " + rows[owners], mask, () -> x.pool(3, 2));
        }
    }

    private static void poolsWithJustTheseOwners() {
        Due.sentence("owners: 0 to 3: only pools with just these owners count; NONE: all pools");
        RingStones x = Due.board("board 1 12; row bobowowobobo;");
        int[] want = {6, 0, 3, 1, 2};
        for (int owners = -1; owners < 4; owners++) {
            int mask = owners;
            Due.gives("pools(" + owners + ")", want[owners + 1], () -> x.pools(mask));
        }
    }

    private static void poolsArguments() {
        Due.sentence("pools: IllegalArgumentException if owners is out of range");
        RingStones x = new RingStones();
        Due.throwsJust("pools(4)", ARGUMENT, () -> x.pools(4));
        for (int far : FAR) {
            Due.throwsJust("pools(" + far + ")", ARGUMENT, () -> x.pools(far));
        }
    }

    private static void poolsNumbers() {
        Due.sentence("3: the black chains next to it; 4: the white chains next to it");
        RingStones once = Due.board("board 1 5; row obbbo;");
        Due.gives("a chain on both sides", "0 2 1 1 0", () -> numbers(once, 4));
        RingStones ring = Due.board("board 3 12; row bobobobobobo; row oooooooooooo; row wowowowowowo;");
        Due.gives("six chains of each colour", "1 24 3 6 6", () -> numbers(ring, 12));
        Due.throwsJust("what 5", ARGUMENT, () -> ring.pool(1, 5));
        Due.throwsJust("what -1", ARGUMENT, () -> ring.pool(1, -1));
        for (int far : FAR) {
            Due.throwsJust("pool(1, " + far + ")", ARGUMENT, () -> ring.pool(1, far));
            Due.throwsJust("pool(" + far + ", 0)", INDEX, () -> ring.pool(far, 0));
        }
        Due.throwsJust("pool(-1, 0)", INDEX, () -> ring.pool(-1, 0));
        Due.throwsJust("pool(36, 0)", INDEX, () -> ring.pool(36, 0));
    }

    private static void poolOnAStone() {
        Due.sentence("pool: NoSuchElementException if the place has a stone");
        RingStones x = Due.board("board 1 3; row bwo;");
        for (int what = 0; what < 5; what++) {
            int number = what;
            Due.throwsJust("pool(0, " + what + ")", NoSuchElementException.class, () -> x.pool(0, number));
            Due.throwsJust("pool(1, " + what + ")", NoSuchElementException.class, () -> x.pool(1, number));
        }
    }

    // ---- shared eyes and standoffs

    private static void sharedEye(String rows, int place, boolean want) {
        RingStones x = Due.board(rows);
        Due.gives("isSharedEye(" + place + ") on " + rows, want, () -> x.isSharedEye(place));
    }

    private static void sharedEyeOfTwoChains() {
        Due.sentence("A pool is a shared eye if it ... is next to two or more chains");
        sharedEye("board 1 4; row bobo;", 1, true);
        sharedEye("board 1 4; row wowo;", 3, true);
        sharedEye("board 1 4; row booo;", 1, false);
        sharedEye("board 1 4; row bbbo;", 3, false);
        sharedEye("board 2 6; row bobobo; row oooooo;", 6, true);
        sharedEye("board 2 4; row bobb; row bbbo;", 1, false);
    }

    private static void sharedEyeOfOneOwner() {
        Due.sentence("A pool is a shared eye if it has just one owner");
        sharedEye("board 1 3; row ooo;", 0, false);
        sharedEye("board 1 4; row bowo;", 1, false);
        sharedEye("board 1 6; row bowobo;", 5, true);
        sharedEye("board 2 6; row bobobo; row ooowoo;", 6, false);
    }

    private static void sharedEyesPlaces() {
        Due.sentence("Tells whether a place belongs to a shared eye (false if it has a stone)");
        sharedEye("board 1 4; row bobo;", 0, false);
        sharedEye("board 1 4; row wowo;", 2, false);
        RingStones x = Due.board("board 1 4; row bobo;");
        Due.gives("the last place", true, () -> x.isSharedEye(3));
        Due.throwsJust("the place behind it", INDEX, () -> x.isSharedEye(4));
        for (int far : FAR) {
            Due.throwsJust("isSharedEye(" + far + ")", INDEX, () -> x.isSharedEye(far));
        }
    }

    private static void standoff(String rows, int place, boolean want) {
        RingStones x = Due.board(rows);
        Due.gives("isStandoff(" + place + ") on " + rows, want, () -> x.isStandoff(place));
    }

    private static void standoffOfBothOwners() {
        Due.sentence("It is a standoff if it has both owners");
        standoff("board 1 8; row bbowwwob;", 2, true);
        standoff("board 1 4; row bobo;", 1, false);
        standoff("board 1 4; row wowo;", 1, false);
        standoff("board 1 3; row ooo;", 0, false);
    }

    private static void standoffWithOneFreedomEach() {
        Due.sentence("and each move on each of its places, by black and by white, would leave the chain of the new stone without a"
            + " freedom or with just one");
        RingStones one = Due.board("board 1 4; row bowo;");
        Due.gives("one freedom each", "1 1", () -> one.move(1, 1, 2) + " " + one.move(1, 2, 2));
        standoff("board 1 4; row bowo;", 1, true);
        standoff("board 1 5; row bowoo;", 1, true);
        standoff("board 1 5; row bowoo;", 4, false);
        standoff("board 2 3; row bow; row bow;", 1, true);
        standoff("board 2 3; row bow; row bow;", 4, true);
        standoff("board 1 6; row bowooo;", 4, false);
        standoff("board 2 6; row oboobw; row bbwowb;", 0, false);
        standoff("board 2 6; row owoowb; row wwbobw;", 0, false);
        RingStones none = Due.board("board 2 6; row oboobw; row bbwowb;");
        Due.gives("two freedoms for black, none for white", "2 0", () -> none.move(0, 1, 2) + " " + none.move(0, 2, 2));
    }

    private static void standoffBehindCaptures() {
        Due.sentence("captures are taken away before that");
        standoff("board 1 12; row bwwobobwwobo;", 3, false);
        standoff("board 1 12; row wbbowowbbowo;", 3, false);
        standoff("board 1 3; row bwo;", 2, true);
        RingStones x = Due.board("board 1 3; row bwo;");
        Due.gives("captured, and one freedom behind it", "1 1", () -> x.move(2, 1, 0) + " " + x.move(2, 1, 2));
    }

    private static void standoffWithoutRegardToTheGame() {
        Due.sentence("bans and repetitions do not matter (nor do the turn and the end of the game)");
        RingStones x = Due.board("board 1 12; rule 1; turn white; row boobbobooooo;");
        x.play(2);
        x.setTurn(2);
        Due.gives("captured", 2, () -> x.play(5));
        Due.gives("captured", 1, () -> x.play(4));
        x.play(1);
        Due.gives("black's only move with two freedoms is a repetition", 5, () -> x.reason(3, 1));
        Due.gives("isStandoff(3)", false, () -> x.isStandoff(3));
        RingStones over = Due.board("board 1 8; row bbowwwob;");
        over.pass();
        over.pass();
        Due.gives("the game is over", true, () -> over.isStandoff(2));
        RingStones goesOn = Due.board("board 1 6; row bowooo;");
        goesOn.pass();
        goesOn.pass();
        Due.gives("nobody can enter any more, but not for want of freedoms", false, () -> goesOn.isStandoff(4));
    }

    private static void standoffsPlaces() {
        Due.sentence("Tells whether a place belongs to a standoff (false if it has a stone)");
        standoff("board 1 8; row bbowwwob;", 0, false);
        standoff("board 1 8; row bbowwwob;", 3, false);
        standoff("board 1 5; row wowob;", 4, false);
        RingStones x = Due.board("board 1 8; row bbbowwwo;");
        Due.gives("the last place", true, () -> x.isStandoff(7));
        Due.throwsJust("the place behind it", INDEX, () -> x.isStandoff(8));
        for (int far : FAR) {
            Due.throwsJust("isStandoff(" + far + ")", INDEX, () -> x.isStandoff(far));
        }
    }

    // ---- life

    private static void regionWithOtherStones() {
        Due.sentence("A region consists of all places that can be reached over neighbours without a stone of this colour");
        RingStones x = Due.board("board 3 6; row bobobo; row bbbbbb; row wwowww;");
        Due.gives("a ring of white stones and one empty place", 4, () -> x.chain(0, 4));
        RingStones end = Due.board("board 1 6; row ooobow;");
        Due.gives("one region over the end of the ring", 0, () -> end.chain(3, 4));
        RingStones white = Due.board("board 1 5; row obowo;");
        Due.gives("stones of the other colour do not end a region", "0 0", () -> white.chain(1, 4) + " " + white.chain(3, 4));
    }

    private static void vitalRegionWholly() {
        Due.sentence("A region is vital to a chain of this colour if it has at least one empty place, and all of its empty places"
            + " are freedoms of the chain");
        RingStones one = Due.board("board 1 5; row bbbbo;");
        Due.gives("one empty place", 1, () -> one.chain(0, 4));
        RingStones all = Due.board("board 2 5; row bbbbb; row ooooo;");
        Due.gives("all places of a ring", 1, () -> all.chain(0, 4));
        RingStones two = Due.board("board 3 5; row bbbbb; row ooooo; row wwwww;");
        Due.gives("all empty places, with white stones behind them", 1, () -> two.chain(0, 4));
        RingStones far = Due.board("board 3 5; row bbbbb; row ooooo; row wwwwo;");
        Due.gives("all but one of them", 0, () -> far.chain(0, 4));
        RingStones middle = Due.board("board 3 5; row ooooo; row bbbbb; row ooooo;");
        Due.gives("the inner and the outer ring", 2, () -> middle.chain(5, 4));
    }

    private static void alive(String rows, int place, boolean want) {
        RingStones x = Due.board(rows);
        Due.gives("isAlive(" + place + ") on " + rows, want, () -> x.isAlive(place));
    }

    private static void twoVitalRegions() {
        Due.sentence("first all chains are left out to which fewer than two of the regions that count are vital");
        alive("board 3 5; row ooooo; row bbbbb; row ooooo;", 5, true);
        alive("board 2 5; row bbbbb; row ooooo;", 0, false);
        alive("board 4 5; row ooooo; row bbbbb; row ooooo; row ooooo;", 5, false);
        alive("board 2 6; row bobobb; row bbbbbb;", 0, true);
        alive("board 2 6; row bobbbb; row bbbbbb;", 0, false);
        alive("board 2 6; row wowoww; row wwwwww;", 0, true);
        alive("board 1 5; row obooo;", 1, false);
        alive("board 1 3; row boo;", 0, false);
        alive("board 4 6; row bobbbb; row bbbbbb; row oooooo; row wwwwww;", 0, true);
    }

    private static void leftOutAgainAndAgain() {
        Due.sentence("Again and again ...; until no chain is left out any more");
        RingStones x = Due.board("board 1 12; row obobobobowwo;");
        for (int place = 1; place < 8; place += 2) {
            int at = place;
            Due.gives("isAlive(" + at + ")", false, () -> x.isAlive(at));
        }
        Due.gives("the chain that goes in the second round", 2, () -> x.chain(3, 4));
        RingStones round = Due.board("board 1 12; row bobobobobobo;");
        Due.gives("a row without an end", 6, () -> round.alive(1));
        RingStones broken = Due.board("board 1 12; row bobobobobooo;");
        Due.gives("a row whose last region is too large", 0, () -> broken.alive(1));
    }

    private static void regionsBesideAChainLeftOut() {
        Due.sentence("then all regions that have a neighbour with a stone of a chain that was left out");
        RingStones x = Due.board("board 2 6; row bobobb; row bbbbbo;");
        Due.gives("three regions of one chain", 9, () -> x.alive(1));
        RingStones two = Due.board("board 1 8; row bbobbowo;");
        Due.gives("the region between two chains goes with the first of them", "1 1 0",
            () -> two.chain(0, 4) + " " + two.chain(3, 4) + " " + two.alive(1));
        RingStones apart = Due.board("board 3 8; row obobobww; row wbbbbbwo; row owwwwbob;");
        Due.gives("a chain that is left out touches none of the regions of another one", "2 0 9",
            () -> apart.chain(1, 4) + " " + apart.chain(23, 4) + " " + apart.alive(1));
    }

    private static void aliveOnEmptyPlaces() {
        Due.sentence("Returns whether it is (false if the place is empty)");
        RingStones x = Due.board("board 2 6; row bobobb; row bbbbbb;");
        Due.gives("an eye", "false false", () -> x.isAlive(1) + " " + x.isAlive(3));
        Due.gives("the last place", true, () -> x.isAlive(11));
        Due.throwsJust("the place behind it", INDEX, () -> x.isAlive(12));
        for (int far : FAR) {
            Due.throwsJust("isAlive(" + far + ")", INDEX, () -> x.isAlive(far));
        }
    }

    private static void aliveOfNone() {
        Due.sentence("Counts the stones of the living chains of a colour (none, and all)");
        RingStones empty = new RingStones();
        Due.gives("an empty board", "0 0", () -> empty.alive(1) + " " + empty.alive(2));
        RingStones most = Due.board(Due.text(5, 12, Due.put("w".repeat(60), 'o', 0, 59)));
        Due.gives("all stones", "0 58", () -> most.alive(1) + " " + most.alive(2));
        RingStones dead = full(59);
        Due.gives("one eye", "0 0", () -> dead.alive(1) + " " + dead.alive(2));
        RingStones first = Due.board("board 1 3; row boo;");
        Due.gives("a stone on place 0", 0, () -> first.alive(1));
        Due.throwsJust("alive(0)", ARGUMENT, () -> empty.alive(0));
        Due.throwsJust("alive(3)", ARGUMENT, () -> empty.alive(3));
        for (int far : FAR) {
            Due.throwsJust("alive(" + far + ")", ARGUMENT, () -> empty.alive(far));
        }
    }

    // ---- catching

    private static void caught(String rows, int place, int want) {
        RingStones x = Due.board(rows);
        Due.gives("caughtBy(" + place + ") on " + rows, want, () -> x.caughtBy(place));
    }

    private static void caughtByOne() {
        Due.sentence("A chain can be caught by n moves (n at least 1) if ...: the chain is captured");
        caught("board 1 3; row bwo;", 0, 1);
        caught("board 1 3; row bbo;", 0, 1);
        caught("board 1 6; row owbooo;", 1, 1);
        caught("board 1 6; row owbooo;", 2, 1);
        caught(Due.text(5, 12, Due.put("b".repeat(60), 'o', 59)), 0, 1);
    }

    private static void caughtByRefusedEscape() {
        Due.sentence("or n is at least 2, the chain has just one freedom, and one of these holds: a stone of its colour on this"
            + " freedom would be refused for the reason 4");
        caught("board 1 7; row bowwowo;", 0, 2);
        caught("board 1 7; row wobbobo;", 0, 2);
    }

    private static void caughtByTwoBehindAnEscape() {
        Due.sentence("or behind such a stone the chain (with all that joined it) can be caught by n - 1 moves");
        caught("board 1 5; row boooo;", 0, 2);
        caught("board 1 3; row boo;", 0, 2);
        caught("board 1 4; row obow;", 1, 3);
    }

    private static void catchersMoveRefused() {
        Due.sentence("the other colour (the catcher) has a move on one of its freedoms, not refused for the reason 4");
        caught("board 1 4; row owow;", 1, -1);
        caught("board 2 4; row bobo; row bbbb;", 0, -1);
        caught("board 2 4; row bobb; row bbbb;", 0, 1);
    }

    private static void caughtOfTwoFreedomsAtMost() {
        Due.sentence("the chain has just one freedom");
        RingStones x = Due.board(Due.text(2, 5, "booooooooo"));
        Due.gives("three freedoms", "3 -1", () -> x.chain(0, 2) + " " + x.caughtBy(0));
        caught("board 3 4; row oooo; row oboo; row oooo;", 5, -1);
    }

    private static void caughtWithAllThatJoined() {
        Due.sentence("the chain (with all that joined it)");
        caught("board 2 6; row bobobo; row wobobo;", 0, -1);
        caught("board 1 9; row booooobbo;", 0, 2);
    }

    private static void caughtThoughItCouldCapture() {
        Due.sentence("the chain does nothing else than to put a stone on its only freedom");
        // Behind white's stone on 1, black could capture it on 2, but puts its stone on 3.
        caught("board 1 4; row booo;", 0, 2);
    }

    private static void caughtByEightAtMost() {
        Due.sentence("Returns 1 to 8; NONE if it cannot be caught by 8 moves");
        caught("board 3 6; row owooow; row ooooow; row obwooo;", 14, 7);
        caught("board 5 4; row owwb; row booo; row oooo; row oooo; row oooo;", 3, 8);
        // By nine moves this chain could be caught.
        caught("board 3 7; row oowooow; row oobwwoo; row oooooow;", 2, -1);
        caught("board 3 8; row oowooooo; row ooooooww; row woowobob;", 16, -1);
    }

    private static void caughtWithoutRegardToTheGame() {
        Due.sentence("(Bans, repetitions, the turn and the end of the game do not matter)");
        RingStones x = Due.board("board 1 7; rule 1; row bwowooo;");
        x.play(2);
        Due.gives("the catcher's place is banned", "3 1", () -> x.reason(1, 2) + " " + x.caughtBy(2));
        x.setTurn(2);
        Due.gives("a repetition", "5 1", () -> x.reason(1, 2) + " " + x.caughtBy(2));
        x.setTurn(1);
        Due.gives("not the catcher's turn", 1, () -> x.caughtBy(2));
        String before = Due.state(x);
        x.pass();
        x.pass();
        Due.gives("the game is over", 1, () -> x.caughtBy(2));
        x.undo();
        x.undo();
        Due.gives("nothing changed", before, () -> Due.state(x));
    }

    private static void caughtOnAnEmptyPlace() {
        Due.sentence("caughtBy: NoSuchElementException if the place is empty");
        RingStones x = Due.board("board 1 3; row bwo;");
        Due.throwsJust("caughtBy(2)", NoSuchElementException.class, () -> x.caughtBy(2));
        Due.throwsJust("caughtBy(3)", INDEX, () -> x.caughtBy(3));
        for (int far : FAR) {
            Due.throwsJust("caughtBy(" + far + ")", INDEX, () -> x.caughtBy(far));
        }
    }

    // ---- areas

    private static void areaOfOnlyOwners() {
        Due.sentence("The area of a colour is the number of its stones plus the number of places of all pools of which it is the"
            + " only owner");
        RingStones none = new RingStones();
        Due.gives("a pool without an owner", "0 0", () -> none.area(1) + " " + none.area(2));
        none.setStone(1, 2);
        Due.gives("the only stone", "0 3", () -> none.area(1) + " " + none.area(2));
        none.setStone(2, 1);
        Due.gives("a pool of both", "1 1", () -> none.area(1) + " " + none.area(2));
        RingStones whole = full(0);
        Due.gives("the whole board", "60 0", () -> whole.area(1) + " " + whole.area(2));
        Due.throwsJust("area(0)", ARGUMENT, () -> whole.area(0));
        Due.throwsJust("area(3)", ARGUMENT, () -> whole.area(3));
        for (int far : FAR) {
            Due.throwsJust("area(" + far + ")", ARGUMENT, () -> whole.area(far));
        }
    }

    private static void scoreWithTheBonus() {
        Due.sentence("The score is the area of black minus the area of white minus the bonus (-99 to 99)");
        RingStones x = full(0);
        Due.gives("without a bonus", 60, x::score);
        x.setBonus(-99);
        Due.gives("the highest score", 159, x::score);
        x.setTurn(2);
        x.play(0);
        x.setBonus(99);
        Due.gives("the lowest score", -159, x::score);
    }

    private static void shareOfAllPlaces() {
        Due.sentence("Returns the area as a float, divided by the number of places as a float");
        RingStones x = new RingStones();
        Due.gives("no area", 0f, () -> x.share(2));
        x.setStone(0, 2);
        Due.gives("all places", 1f, () -> x.share(2));
        x.setStone(1, 1);
        Due.gives("a third", 1f / 3f, () -> x.share(2));
        Due.throwsJust("share(0)", ARGUMENT, () -> x.share(0));
        Due.throwsJust("share(3)", ARGUMENT, () -> x.share(3));
        for (int far : FAR) {
            Due.throwsJust("share(" + far + ")", ARGUMENT, () -> x.share(far));
        }
    }
}
