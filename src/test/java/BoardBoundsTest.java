/** Section 1 and promises 1 and 5 to 12: a test of its own for each sentence of the document that names a boundary case. */
public final class BoardBoundsTest {
    private static final Class<IndexOutOfBoundsException> INDEX = IndexOutOfBoundsException.class;
    private static final Class<IllegalArgumentException> ARGUMENT = IllegalArgumentException.class;
    private static final int[] FAR = {Integer.MIN_VALUE, Integer.MIN_VALUE + 1, -64, -1, 64, Integer.MAX_VALUE};

    /** What is looked at on an empty board of each size. */
    private interface OnBoard {
        void look(RingStones x, int rings, int sectors);
    }

    public static void main(String[] args) {
        calls512();
        ringsAndSectors();
        ringsAndSectorsTooMany();
        numbersFromZero();
        numbersThatDoNotExist();
        behindTheLastSector();
        aheadOfSectorZero();
        outermostAndInnermost();
        noWayToTheNextRing();
        neighboursArguments();
        stonesOfPlaces();
        newObject();
        countsArguments();
        chainsNumbers();
        oneStoneAlone();
        chainOverTheEnd();
        chainOfAWholeRing();
        chainOfAWholeBoard();
        freedomsCountOnce();
        lowestFreedom();
        freedomsInOrder();
        noSuchFreedom();
        chainsOfAColour();
        mostFreedoms();
        weakestOfSeveral();
        weakestOfNone();
        Due.end();
    }

    private static void onEachSize(OnBoard test) {
        for (int rings = 1; rings <= 5; rings++) {
            for (int sectors = 3; sectors <= 12; sectors++) {
                test.look(empty(rings, sectors), rings, sectors);
            }
        }
    }

    private static RingStones empty(int rings, int sectors) {
        return Due.board(Due.text(rings, sectors, "o".repeat(rings * sectors)));
    }

    private static RingStones with(int rings, int sectors, char letter, int... places) {
        return Due.board(Due.text(rings, sectors, Due.put("o".repeat(rings * sectors), letter, places)));
    }

    private static String size(int rings, int sectors) {
        return " on " + rings + " rings of " + sectors;
    }

    private static void calls512() {
        Due.sentence("An object is used for at most 512 calls after it has been made");
        RingStones loads = new RingStones();
        String text = Due.text(5, 12, "o".repeat(60));
        for (int i = 0; i < 85; i++) {
            Due.load(loads, text);
        }
        loads.play(59);
        loads.undo();
        Due.gives("call 512 behind 85 loads", 0, () -> loads.play(0));
        RingStones turns = new RingStones();
        for (int i = 0; i < 511; i++) {
            turns.setTurn(2 - i % 2);
        }
        Due.gives("call 512 behind 511 changes", 7, turns::undo);
        RingStones moves = new RingStones();
        for (int i = 0; i < 255; i++) {
            moves.play(moves.greediest(1 + i % 2));
        }
        moves.pass();
        Due.gives("call 512 behind 255 moves", 255, () -> moves.count(5));
    }

    private static void ringsAndSectors() {
        Due.sentence("The board has 1 to 5 rings and 3 to 12 sectors");
        onEachSize((x, rings, sectors) -> {
            Due.gives("rings" + size(rings, sectors), rings, () -> x.count(0));
            Due.gives("sectors" + size(rings, sectors), sectors, () -> x.count(1));
            Due.gives("places" + size(rings, sectors), rings * sectors, () -> x.pool(0, 1));
        });
    }

    private static void ringsAndSectorsTooMany() {
        Due.sentence("The board has 1 to 5 rings and 3 to 12 sectors (no others)");
        int[][] none = {{0, 3}, {6, 3}, {1, 2}, {1, 13}, {1, 0}, {60, 3}, {1, 60}};
        for (int[] size : none) {
            RingStones x = new RingStones();
            String text = Due.text(size[0], size[1], "o".repeat(size[0] * size[1]));
            Due.gives(text, -3, () -> Due.load(x, text.length() > 300 ? text.substring(0, 300) : text));
            Due.gives("the board stays behind " + text, "1 3", () -> x.count(0) + " " + x.count(1));
        }
    }

    private static void numbersFromZero() {
        Due.sentence("both numbered from 0; ring 0 is the innermost one. The place in ring r and sector s has the number"
            + " sectors * r + s");
        onEachSize((x, rings, sectors) -> {
            for (int ring = 0; ring < rings; ring++) {
                int r = ring;
                Due.gives("place(" + r + ", 0)" + size(rings, sectors), sectors * r, () -> x.place(r, 0));
                Due.gives("the last of ring " + r + size(rings, sectors), sectors * r + sectors - 1,
                    () -> x.place(r, sectors - 1));
            }
        });
    }

    private static void numbersThatDoNotExist() {
        Due.sentence("IndexOutOfBoundsException if there is no such ring or sector");
        onEachSize((x, rings, sectors) -> {
            Due.throwsJust("the ring too many" + size(rings, sectors), INDEX, () -> x.place(rings, 0));
            Due.throwsJust("the sector too many" + size(rings, sectors), INDEX, () -> x.place(0, sectors));
            Due.throwsJust("a sector of the last ring" + size(rings, sectors), INDEX, () -> x.place(rings - 1, sectors));
            Due.throwsJust("ring -1" + size(rings, sectors), INDEX, () -> x.place(-1, 0));
            Due.throwsJust("sector -1" + size(rings, sectors), INDEX, () -> x.place(rings - 1, -1));
        });
        RingStones x = new RingStones();
        for (int far : FAR) {
            Due.throwsJust("place(" + far + ", 0)", INDEX, () -> x.place(far, 0));
            Due.throwsJust("place(0, " + far + ")", INDEX, () -> x.place(0, far));
        }
    }

    private static void behindTheLastSector() {
        Due.sentence("0 clockwise, in sector s + 1 of its ring (behind the last sector comes sector 0)");
        onEachSize((x, rings, sectors) -> {
            for (int place = 0; place < rings * sectors; place++) {
                int at = place;
                int want = at % sectors == sectors - 1 ? at - sectors + 1 : at + 1;
                Due.gives("neighbour(" + at + ", 0)" + size(rings, sectors), want, () -> x.neighbour(at, 0));
            }
        });
    }

    private static void aheadOfSectorZero() {
        Due.sentence("1 counterclockwise, in sector s - 1 of its ring (ahead of sector 0 comes the last one)");
        onEachSize((x, rings, sectors) -> {
            for (int place = 0; place < rings * sectors; place++) {
                int at = place;
                int want = at % sectors == 0 ? at + sectors - 1 : at - 1;
                Due.gives("neighbour(" + at + ", 1)" + size(rings, sectors), want, () -> x.neighbour(at, 1));
            }
        });
    }

    private static void outermostAndInnermost() {
        Due.sentence("the directions 2 and 3 lead nowhere from the outermost and from the innermost ring");
        onEachSize((x, rings, sectors) -> {
            for (int place = 0; place < rings * sectors; place++) {
                int at = place;
                int out = at / sectors == rings - 1 ? -1 : at + sectors;
                int in = at / sectors == 0 ? -1 : at - sectors;
                Due.gives("neighbour(" + at + ", 2)" + size(rings, sectors), out, () -> x.neighbour(at, 2));
                Due.gives("neighbour(" + at + ", 3)" + size(rings, sectors), in, () -> x.neighbour(at, 3));
            }
        });
    }

    private static void noWayToTheNextRing() {
        Due.sentence("It has up to four neighbours (the last sector of a ring is not beside the first of the next one)");
        onEachSize((x, rings, sectors) -> {
            for (int ring = 1; ring < rings; ring++) {
                int first = sectors * ring;
                RingStones two = with(rings, sectors, 'w', first - 1, first);
                Due.gives("chain of " + (first - 1) + size(rings, sectors), 1, () -> two.chain(first - 1, 1));
                Due.gives("chains" + size(rings, sectors), 2, () -> two.chains(2, 4));
            }
        });
    }

    private static void neighboursArguments() {
        Due.sentence("direction: 0 to 3");
        RingStones x = empty(5, 12);
        Due.throwsJust("neighbour(0, 4)", ARGUMENT, () -> x.neighbour(0, 4));
        for (int far : FAR) {
            Due.throwsJust("neighbour(59, " + far + ")", ARGUMENT, () -> x.neighbour(59, far));
            Due.throwsJust("neighbour(" + far + ", 0)", INDEX, () -> x.neighbour(far, 0));
        }
    }

    private static void stonesOfPlaces() {
        Due.sentence("an IndexOutOfBoundsException is thrown if a place does not exist");
        onEachSize((x, rings, sectors) -> {
            int places = rings * sectors;
            Due.gives("the last place" + size(rings, sectors), 0, () -> x.stone(places - 1));
            Due.throwsJust("the place behind it" + size(rings, sectors), INDEX, () -> x.stone(places));
            Due.throwsJust("the place -1" + size(rings, sectors), INDEX, () -> x.stone(-1));
        });
    }

    private static void newObject() {
        Due.sentence("Creates an empty board of 1 ring and 3 sectors with the rule 0 and the bonus 0, black's turn, an empty"
            + " text buffer and empty slots");
        RingStones x = new RingStones();
        Due.gives("places", 3, () -> x.pool(0, 1));
        Due.throwsJust("a fourth place", INDEX, () -> x.stone(3));
        Due.throwsJust("a second ring", INDEX, () -> x.writeRing(1));
        Due.gives("rule, bonus, turn", "0 0 1", () -> x.count(10) + " " + x.count(11) + " " + x.count(4));
        Due.gives("the slots", "-1 -1", () -> x.differing(0) + " " + x.differing(1));
        Due.throwsJust("a byte of the buffer", ARGUMENT, () -> x.load(1));
        Due.gives("the first bytes", 20, () -> x.append(0, 0, 0, 0, 0));
    }

    private static void countsArguments() {
        Due.sentence("count: IllegalArgumentException for any other what");
        RingStones x = new RingStones();
        Due.gives("count(0), the first", 1, () -> x.count(0));
        Due.gives("count(11), the last", 0, () -> x.count(11));
        x.setStone(0, 1);
        x.setStone(1, 2);
        Due.gives("count(2) and count(3)", "1 1", () -> x.count(2) + " " + x.count(3));
        Due.gives("count(7) and count(8)", "0 0", () -> x.count(7) + " " + x.count(8));
        Due.throwsJust("count(12)", ARGUMENT, () -> x.count(12));
        for (int far : FAR) {
            Due.throwsJust("count(" + far + ")", ARGUMENT, () -> x.count(far));
        }
    }

    private static void chainsNumbers() {
        Due.sentence("chain: IllegalArgumentException for any other what; NoSuchElementException if the place is empty");
        RingStones x = Due.board("board 2 4; row bboo; row oboo;");
        int[] want = {0, 3, 4, 2, 0};
        for (int what = 0; what < 5; what++) {
            int number = what;
            Due.gives("chain(5, " + what + ")", want[what], () -> x.chain(5, number));
            Due.throwsJust("chain(7, " + what + ")", java.util.NoSuchElementException.class, () -> x.chain(7, number));
        }
        Due.throwsJust("chain(5, 5)", ARGUMENT, () -> x.chain(5, 5));
        for (int far : FAR) {
            Due.throwsJust("chain(5, " + far + ")", ARGUMENT, () -> x.chain(5, far));
            Due.throwsJust("chain(" + far + ", 0)", INDEX, () -> x.chain(far, 0));
        }
    }

    private static void oneStoneAlone() {
        Due.sentence("A chain consists of all places that can be reached from a stone over neighbours with stones of its"
            + " colour (also of this stone alone)");
        onEachSize((empty, rings, sectors) -> {
            for (int place : new int[] {0, sectors - 1, rings * sectors - sectors, rings * sectors - 1}) {
                RingStones x = with(rings, sectors, 'w', place);
                int free = rings == 1 ? 2 : 3;
                Due.gives("the chain of " + place + size(rings, sectors), place + " 1 " + free,
                    () -> x.chain(place, 0) + " " + x.chain(place, 1) + " " + x.chain(place, 2));
            }
        });
        RingStones beside = Due.board("board 1 4; row bwoo;");
        Due.gives("a stone of the other colour beside it", "1 1", () -> beside.chain(0, 1) + " " + beside.chain(1, 1));
    }

    private static void chainOverTheEnd() {
        Due.sentence("A chain is told by its lowest place (also over the end of a ring)");
        onEachSize((empty, rings, sectors) -> {
            int first = sectors * (rings - 1);
            int last = first + sectors - 1;
            RingStones x = with(rings, sectors, 'b', first, last);
            Due.gives("stones" + size(rings, sectors), "2 2", () -> x.chain(first, 1) + " " + x.chain(last, 1));
            Due.gives("told by" + size(rings, sectors), first, () -> x.chain(last, 0));
        });
    }

    private static void chainOfAWholeRing() {
        Due.sentence("A chain consists of all places that can be reached (a whole ring)");
        onEachSize((empty, rings, sectors) -> {
            for (int ring = 0; ring < rings && rings > 1; ring++) {
                int first = sectors * ring;
                RingStones x = empty(rings, sectors);
                for (int sector = 0; sector < sectors; sector++) {
                    x.setStone(first + sector, 1);
                }
                int free = ring == 0 || ring == rings - 1 ? sectors : 2 * sectors;
                Due.gives("the chain of ring " + ring + size(rings, sectors), first + " " + sectors + " " + free,
                    () -> x.chain(first + 1, 0) + " " + x.chain(first + 1, 1) + " " + x.chain(first + 1, 2));
            }
        });
    }

    private static void chainOfAWholeBoard() {
        Due.sentence("A chain consists of all places that can be reached (all places but one)");
        onEachSize((empty, rings, sectors) -> {
            int places = rings * sectors;
            for (int hole : new int[] {0, places / 2, places - 1}) {
                RingStones x = Due.board(Due.text(rings, sectors, Due.put("w".repeat(places), 'o', hole)));
                int some = hole == 0 ? places - 1 : 0;
                Due.gives("stones" + size(rings, sectors), places - 1, () -> x.chain(some, 1));
                Due.gives("freedoms" + size(rings, sectors), "1 " + hole, () -> x.chain(some, 2) + " " + x.freedom(some, 0));
            }
        });
    }

    private static void freedomsCountOnce() {
        Due.sentence("Its freedoms are the empty places that are neighbours of places of the chain");
        RingStones around = Due.board("board 1 3; row bbo;");
        Due.gives("a place beside both ends", 1, () -> around.chain(0, 2));
        RingStones corner = Due.board("board 2 4; row bboo; row oboo;");
        Due.gives("a place in the corner", 4, () -> corner.chain(0, 2));
        RingStones stone = Due.board("board 1 4; row bbwo;");
        Due.gives("a stone is no freedom", 1, () -> stone.chain(0, 2));
    }

    private static void lowestFreedom() {
        Due.sentence("3: the lowest freedom");
        RingStones zero = with(5, 12, 'b', 11);
        Due.gives("place 0, behind the last sector", 0, () -> zero.chain(11, 3));
        RingStones last = Due.board(Due.text(5, 12, Due.put("w".repeat(60), 'o', 59)));
        Due.gives("the last place", 59, () -> last.chain(0, 3));
    }

    private static void freedomsInOrder() {
        Due.sentence("index: 0 for the lowest one");
        RingStones ring = empty(5, 12);
        for (int sector = 0; sector < 12; sector++) {
            ring.setStone(24 + sector, 1);
        }
        for (int index = 0; index < 24; index++) {
            int i = index;
            Due.gives("freedom(24, " + i + ")", i < 12 ? 12 + i : 24 + i, () -> ring.freedom(24, i));
        }
        Due.throwsJust("freedom(24, 24)", INDEX, () -> ring.freedom(24, 24));
        RingStones inner = with(2, 4, 'b', 4, 5, 6, 7);
        Due.gives("from place 0 on", "0 1 2 3", () -> inner.freedom(7, 0) + " " + inner.freedom(7, 1) + " "
            + inner.freedom(7, 2) + " " + inner.freedom(7, 3));
    }

    private static void noSuchFreedom() {
        Due.sentence("IndexOutOfBoundsException if the place does not exist, or there are not so many freedoms (also if the"
            + " place is empty)");
        RingStones x = Due.board("board 1 4; row bwoo;");
        Due.gives("the only freedom", 3, () -> x.freedom(0, 0));
        Due.throwsJust("the second one", INDEX, () -> x.freedom(0, 1));
        Due.throwsJust("the first one of an empty place", INDEX, () -> x.freedom(2, 0));
        Due.throwsJust("number -1 of an empty place", INDEX, () -> x.freedom(2, -1));
        Due.throwsJust("the place behind the last one", INDEX, () -> x.freedom(4, 0));
        for (int far : FAR) {
            Due.throwsJust("freedom(0, " + far + ")", INDEX, () -> x.freedom(0, far));
            Due.throwsJust("freedom(" + far + ", 0)", INDEX, () -> x.freedom(far, 0));
        }
    }

    private static void chainsOfAColour() {
        Due.sentence("Counts the chains of a colour (none, and as many as can be)");
        RingStones none = empty(5, 12);
        Due.gives("an empty board", "0 0", () -> none.chains(1, 99) + " " + none.chains(2, 99));
        String other = "bobobobobobo" + "obobobobobob";
        RingStones many = Due.board(Due.text(5, 12, (other + other + other).substring(0, 60)));
        Due.gives("every second place", "30 0", () -> many.chains(1, 99) + " " + many.chains(2, 99));
        for (int far : FAR) {
            Due.throwsJust("chains(" + far + ", 1)", ARGUMENT, () -> none.chains(far, 1));
        }
        Due.throwsJust("chains(0, 1)", ARGUMENT, () -> none.chains(0, 1));
        Due.throwsJust("chains(3, 1)", ARGUMENT, () -> none.chains(3, 1));
    }

    private static void mostFreedoms() {
        Due.sentence("most: only chains with at most so many freedoms count; any number");
        RingStones x = with(3, 5, 'w', 6);
        int[][] want = {{Integer.MIN_VALUE, 0}, {-1, 0}, {0, 0}, {3, 0}, {4, 1}, {5, 1}, {Integer.MAX_VALUE, 1}};
        for (int[] row : want) {
            Due.gives("chains(2, " + row[0] + ")", row[1], () -> x.chains(2, row[0]));
        }
        RingStones full = Due.board(Due.text(5, 12, Due.put("b".repeat(60), 'o', 30)));
        Due.gives("a full board but for one place", "0 1", () -> full.chains(1, 0) + " " + full.chains(1, 1));
    }

    private static void weakestOfSeveral() {
        Due.sentence("of several chains the one with the most stones, then the one with the lowest place");
        RingStones fewest = Due.board("board 1 9; row obbbowboo;");
        Due.gives("fewer freedoms, though it has fewer stones and a higher place", 6, () -> fewest.weakest(1));
        RingStones stones = Due.board("board 1 9; row obobbobbb;");
        Due.gives("as many freedoms, more stones, a higher place", 6, () -> stones.weakest(1));
        RingStones lowest = Due.board("board 1 9; row bbobbobbo;");
        Due.gives("as many of both: the lowest place", 0, () -> lowest.weakest(1));
        RingStones last = Due.board("board 1 9; row bobooobbb;");
        Due.gives("told by its lowest place over the end of the ring", 0, () -> last.weakest(1));
    }

    private static void weakestOfNone() {
        Due.sentence("NoSuchElementException if the colour has no stones");
        RingStones x = new RingStones();
        x.setStone(2, 2);
        Due.throwsJust("black has none", java.util.NoSuchElementException.class, () -> x.weakest(1));
        Due.gives("white has one", 2, () -> x.weakest(2));
        for (int far : FAR) {
            Due.throwsJust("weakest(" + far + ")", ARGUMENT, () -> x.weakest(far));
        }
    }
}
