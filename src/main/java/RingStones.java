import java.util.NoSuchElementException;

/** A board game with stones on rings; shared/DOC.md promises what each call does. */
public final class RingStones {
    public static final int NONE = -1;
    public static final int SYNTAX_ERROR = -2;
    public static final int VALUE_ERROR = -3;

    private static final int BLACK = 1;
    private static final int WHITE = 2;
    private static final int BOTH = 3;
    private static final int MOST_RINGS = 5;
    private static final int FEWEST_SECTORS = 3;
    private static final int MOST_SECTORS = 12;
    private static final int MOST_BONUS = 99;
    private static final int CHANGES = 8;
    private static final int SLOTS = 2;

    private final Game game;
    private final Game[] earlier;
    private final Game[] slots;
    private final Reader reader;
    private final byte[] written;
    private int undoable;
    private int writtenLength;

    public RingStones() {
        game = new Game();
        earlier = new Game[CHANGES];
        for (int i = 0; i < CHANGES; i++) {
            earlier[i] = new Game();
        }
        slots = new Game[SLOTS];
        reader = new Reader();
        written = new byte[MOST_SECTORS];
        undoable = 0;
        writtenLength = 0;
    }

    public int append(int a, int b, int c, int d, int e) throws IllegalStateException {
        if (reader.held + 20 > Reader.CAPACITY) {
            throw new IllegalStateException("the text buffer is full");
        }
        reader.takeFour(a);
        reader.takeFour(b);
        reader.takeFour(c);
        reader.takeFour(d);
        reader.takeFour(e);
        return reader.held;
    }

    public int load(int length) throws IllegalArgumentException {
        if (length < 0 || length > reader.held) {
            throw new IllegalArgumentException("the text is not so long");
        }
        int error = reader.readText(length);
        if (error != 0) {
            return error;
        }
        remember();
        game.begin(reader.grid, reader.black, reader.white);
        game.turn = reader.turn;
        game.rule = reader.rule;
        game.bonus = reader.bonus;
        return game.board.stoneNumber();
    }

    public int errorPosition() {
        return reader.errorAt;
    }

    public int count(int what) throws IllegalArgumentException {
        switch (what) {
            case 0: return game.board.grid.rings;
            case 1: return game.board.grid.sectors;
            case 2: return Long.bitCount(game.board.black);
            case 3: return Long.bitCount(game.board.white);
            case 4: return game.turn;
            case 5: return game.movesMade;
            case 6: return game.passes;
            case 7: return game.capturedBlack;
            case 8: return game.capturedWhite;
            case 9: return game.banned;
            case 10: return game.rule;
            case 11: return game.bonus;
            default: throw new IllegalArgumentException("there is no such number of a board");
        }
    }

    public int place(int ring, int sector) throws IndexOutOfBoundsException {
        checkRing(ring);
        if (sector < 0 || sector >= game.board.grid.sectors) {
            throw new IndexOutOfBoundsException("there is no such sector");
        }
        return game.board.grid.sectors * ring + sector;
    }

    public int neighbour(int place, int direction) throws IndexOutOfBoundsException, IllegalArgumentException {
        checkPlace(place);
        checkRange(direction, 0, 3);
        return game.board.grid.placeBeside(place, direction);
    }

    public int stone(int place) throws IndexOutOfBoundsException {
        checkPlace(place);
        return game.board.colourAt(place);
    }

    public int chain(int place, int what) throws IndexOutOfBoundsException, IllegalArgumentException, NoSuchElementException {
        checkPlace(place);
        checkRange(what, 0, 4);
        checkStoneAt(place);
        Board board = game.board;
        long chain = board.chainAt(place);
        switch (what) {
            case 0: return lowestOf(chain);
            case 1: return Long.bitCount(chain);
            case 2: return Long.bitCount(board.freedomsOf(chain));
            case 3: return lowestOf(board.freedomsOf(chain));
            default: return board.vitalRegions(chain, board.withoutStonesOf(board.colourAt(place)));
        }
    }

    public int freedom(int place, int index) throws IndexOutOfBoundsException {
        checkPlace(place);
        long freedoms = game.board.freedomsOf(game.board.chainAt(place));
        if (index < 0 || index >= Long.bitCount(freedoms)) {
            throw new IndexOutOfBoundsException("there are not so many freedoms");
        }
        for (int i = 0; i < index; i++) {
            freedoms &= freedoms - 1;
        }
        return lowestOf(freedoms);
    }

    public int chains(int colour, int most) throws IllegalArgumentException {
        checkColour(colour);
        return game.board.chainsWithin(colour, most);
    }

    public int weakest(int colour) throws IllegalArgumentException, NoSuchElementException {
        checkColour(colour);
        if (game.board.stonesOf(colour) == 0) {
            throw new NoSuchElementException("the colour has no stones");
        }
        return game.board.weakestChain(colour);
    }

    public int reason(int place, int colour) throws IndexOutOfBoundsException, IllegalArgumentException {
        checkPlace(place);
        checkColour(colour);
        return game.refusal(place, colour);
    }

    public int play(int place) throws IndexOutOfBoundsException, IllegalStateException {
        checkPlace(place);
        if (game.refusal(place, game.turn) != 0) {
            throw new IllegalStateException("the move is refused");
        }
        remember();
        return game.putAndTake(place);
    }

    public int pass() throws IllegalStateException {
        if (game.isOver()) {
            throw new IllegalStateException("the game is over");
        }
        remember();
        return game.passOn();
    }

    public int move(int place, int colour, int what) throws IndexOutOfBoundsException, IllegalArgumentException, IllegalStateException {
        checkPlace(place);
        checkColour(colour);
        checkRange(what, 0, 2);
        Board board = game.board;
        if (board.colourAt(place) != 0) {
            throw new IllegalStateException("the place has a stone");
        }
        switch (what) {
            case 0: return Long.bitCount(board.capturedBy(place, colour));
            case 1: return Long.bitCount(board.chainMadeBy(place, colour));
            default: return Long.bitCount(board.freedomsMadeBy(place, colour));
        }
    }

    public int moves(int colour) throws IllegalArgumentException {
        checkColour(colour);
        int found = 0;
        for (int at = 0; at < game.board.grid.places; at++) {
            if (game.refusal(at, colour) == 0) {
                found++;
            }
        }
        return found;
    }

    public int greediest(int colour) throws IllegalArgumentException, NoSuchElementException {
        checkColour(colour);
        int best = NONE;
        int most = NONE;
        for (int at = 0; at < game.board.grid.places; at++) {
            if (game.refusal(at, colour) == 0) {
                int captured = Long.bitCount(game.board.capturedBy(at, colour));
                if (captured > most) {
                    best = at;
                    most = captured;
                }
            }
        }
        if (best == NONE) {
            throw new NoSuchElementException("every move is refused");
        }
        return best;
    }

    public int setStone(int place, int colour) throws IndexOutOfBoundsException, IllegalArgumentException, IllegalStateException {
        checkPlace(place);
        checkRange(colour, 0, WHITE);
        Board board = game.board;
        long others = ~(1L << place);
        long black = board.black & others | maskIf(colour == BLACK, place);
        long white = board.white & others | maskIf(colour == WHITE, place);
        if (board.grid.hasStuckChain(black, white)) {
            throw new IllegalStateException("a chain would have no freedom");
        }
        int before = board.colourAt(place);
        remember();
        game.replaceStones(black, white);
        return before;
    }

    public int setTurn(int colour) throws IllegalArgumentException {
        checkColour(colour);
        int before = game.turn;
        remember();
        game.turn = colour;
        game.banned = NONE;
        game.passes = 0;
        return before;
    }

    public int setRule(int rule) throws IllegalArgumentException {
        checkRange(rule, 0, 1);
        int before = game.rule;
        remember();
        game.rule = rule;
        game.positions.beginWith(game.board.black, game.board.white);
        return before;
    }

    public int setBonus(int bonus) throws IllegalArgumentException {
        checkRange(bonus, -MOST_BONUS, MOST_BONUS);
        int before = game.bonus;
        remember();
        game.bonus = bonus;
        return before;
    }

    public int pools(int owners) throws IllegalArgumentException {
        checkRange(owners, NONE, BOTH);
        Board board = game.board;
        long counted = owners == NONE ? board.emptyPlaces() : board.emptyPlacesOwnedBy(owners);
        return board.grid.groups(counted, board.emptyPlaces());
    }

    public int pool(int place, int what) throws IndexOutOfBoundsException, IllegalArgumentException, NoSuchElementException {
        checkPlace(place);
        checkRange(what, 0, 4);
        Board board = game.board;
        long pool = board.poolAt(place);
        if (pool == 0) {
            throw new NoSuchElementException("the place has a stone");
        }
        switch (what) {
            case 0: return lowestOf(pool);
            case 1: return Long.bitCount(pool);
            case 2: return board.ownersOf(pool);
            case 3: return board.chainsBeside(pool, BLACK);
            default: return board.chainsBeside(pool, WHITE);
        }
    }

    public boolean isSharedEye(int place) throws IndexOutOfBoundsException {
        checkPlace(place);
        return game.board.ownsTogether(game.board.poolAt(place));
    }

    public boolean isStandoff(int place) throws IndexOutOfBoundsException {
        checkPlace(place);
        return game.board.keepsBothOut(game.board.poolAt(place));
    }

    public boolean isAlive(int place) throws IndexOutOfBoundsException {
        checkPlace(place);
        int colour = game.board.colourAt(place);
        return colour != 0 && (game.board.livingStones(colour) & 1L << place) != 0;
    }

    public int alive(int colour) throws IllegalArgumentException {
        checkColour(colour);
        return Long.bitCount(game.board.livingStones(colour));
    }

    public int caughtBy(int place) throws IndexOutOfBoundsException, NoSuchElementException {
        checkPlace(place);
        checkStoneAt(place);
        return Hunt.fewestMoves(game.board, place);
    }

    public int area(int colour) throws IllegalArgumentException {
        checkColour(colour);
        return game.board.areaOf(colour);
    }

    public int score() {
        return game.board.areaOf(BLACK) - game.board.areaOf(WHITE) - game.bonus;
    }

    public float share(int colour) throws IllegalArgumentException {
        checkColour(colour);
        int places = game.board.grid.places;
        return places < 1 ? 0f : (float) game.board.areaOf(colour) / (float) places;
    }

    public int writeRing(int ring) throws IndexOutOfBoundsException {
        checkRing(ring);
        int sectors = game.board.grid.sectors;
        for (int sector = 0; sector < sectors && sector < MOST_SECTORS; sector++) {
            written[sector] = (byte) game.letterAt(sectors * ring + sector);
        }
        writtenLength = sectors;
        return sectors;
    }

    public int writtenByte(int index) throws IndexOutOfBoundsException {
        if (index < 0 || index >= writtenLength || index >= MOST_SECTORS) {
            throw new IndexOutOfBoundsException("there is no such byte");
        }
        return written[index];
    }

    public int undo() throws IllegalStateException {
        if (undoable < 1) {
            throw new IllegalStateException("there is no change to undo");
        }
        Game latest = earlier[0];
        game.become(latest);
        for (int i = 1; i < CHANGES; i++) {
            earlier[i - 1] = earlier[i];
        }
        earlier[CHANGES - 1] = latest;
        undoable--;
        return undoable;
    }

    public int save(int slot) throws IndexOutOfBoundsException {
        checkSlot(slot);
        if (slots[slot] == null) {
            slots[slot] = new Game();
        }
        slots[slot].become(game);
        return game.board.stoneNumber();
    }

    public int restore(int slot) throws IndexOutOfBoundsException, IllegalStateException {
        checkSlot(slot);
        Game saved = slots[slot];
        if (saved == null) {
            throw new IllegalStateException("nothing was saved there");
        }
        remember();
        game.become(saved);
        return game.board.stoneNumber();
    }

    public int differing(int slot) throws IndexOutOfBoundsException {
        checkSlot(slot);
        Game saved = slots[slot];
        if (saved == null || !saved.board.grid.isLike(game.board.grid)) {
            return NONE;
        }
        long black = saved.board.black ^ game.board.black;
        long white = saved.board.white ^ game.board.white;
        return Long.bitCount(black | white);
    }

    /** Stands ahead of every change, behind the last thing that can refuse it. */
    private void remember() {
        Game oldest = earlier[CHANGES - 1];
        for (int i = CHANGES - 1; i > 0; i--) {
            earlier[i] = earlier[i - 1];
        }
        earlier[0] = oldest;
        oldest.become(game);
        undoable = Math.min(undoable + 1, CHANGES);
    }

    private void checkPlace(int place) {
        if (place < 0 || place >= game.board.grid.places) {
            throw new IndexOutOfBoundsException("there is no such place");
        }
    }

    private void checkRing(int ring) {
        if (ring < 0 || ring >= game.board.grid.rings) {
            throw new IndexOutOfBoundsException("there is no such ring");
        }
    }

    private void checkStoneAt(int place) {
        if (game.board.colourAt(place) == 0) {
            throw new NoSuchElementException("the place is empty");
        }
    }

    private static void checkSlot(int slot) {
        if (slot < 0 || slot >= SLOTS) {
            throw new IndexOutOfBoundsException("there is no such slot");
        }
    }

    private static void checkColour(int colour) {
        checkRange(colour, BLACK, WHITE);
    }

    private static void checkRange(int value, int least, int most) {
        if (value < least || value > most) {
            throw new IllegalArgumentException("out of range");
        }
    }

    private static int lowestOf(long set) {
        return Long.bitCount((set & -set) - 1);
    }

    private static long maskIf(boolean wanted, int place) {
        return wanted ? 1L << place : 0L;
    }

    /**
     * Which places there are and which are neighbours. A set of places is a long with a bit for each of them,
     * since at most 60 fit on a board: so no call has to make arrays of places.
     */
    private static final class Grid {
        final int rings;
        final int sectors;
        final int places;
        private final long all;
        private final long firstSectors;
        private final long lastSectors;

        Grid(int rings, int sectors) {
            this.rings = rings;
            this.sectors = sectors;
            places = rings * sectors;
            all = (1L << places) - 1;
            long first = 0;
            for (int ring = 0; ring < rings; ring++) {
                first |= 1L << sectors * ring;
            }
            firstSectors = first;
            lastSectors = first << sectors - 1;
        }

        boolean isLike(Grid other) {
            return rings == other.rings && sectors == other.sectors;
        }

        int placeBeside(int place, int direction) {
            long here = 1L << place;
            switch (direction) {
                case 0: return (here & lastSectors) != 0 ? place - sectors + 1 : place + 1;
                case 1: return (here & firstSectors) != 0 ? place + sectors - 1 : place - 1;
                case 2: return place + sectors < places ? place + sectors : NONE;
                default: return place >= sectors ? place - sectors : NONE;
            }
        }

        long allBut(long set) {
            return all & ~set;
        }

        /** All neighbours of places of the set; some of them may be in the set themselves. */
        long around(long set) {
            long clockwise = (set & ~lastSectors) << 1 | (set & lastSectors) >>> sectors - 1;
            long counterclockwise = (set & ~firstSectors) >>> 1 | (set & firstSectors) << sectors - 1;
            long outward = set << sectors & all;
            long inward = set >>> sectors;
            return clockwise | counterclockwise | outward | inward;
        }

        /** All places that can be reached from those of a set, which lie within the other one, inside that one. */
        long reach(long from, long within) {
            long reached = from;
            for (int i = 0; i < places; i++) {
                long wider = reached | around(reached) & within;
                if (wider == reached) {
                    return reached;
                }
                reached = wider;
            }
            return reached;
        }

        /** Counts the connected groups of a set of places that hold one of the seeds. */
        int groups(long seeds, long within) {
            int found = 0;
            long rest = seeds;
            for (int at = 0; at < places; at++) {
                long here = 1L << at;
                if ((rest & here) != 0) {
                    found++;
                    rest &= ~reach(here, within);
                }
            }
            return found;
        }

        long freedoms(long chain, long taken) {
            return around(chain) & ~taken;
        }

        /** The stones of all chains that have no freedom, of a colour that has these stones. */
        long stuckOf(long stones, long taken) {
            return stones & ~reach(stones & around(allBut(taken)), stones);
        }

        boolean hasStuckChain(long black, long white) {
            long taken = black | white;
            return stuckOf(black, taken) != 0 || stuckOf(white, taken) != 0;
        }
    }

    /** The stones on a grid, and what can be told from them alone. */
    private static final class Board {
        Grid grid;
        long black;
        long white;

        Board(Grid grid) {
            this.grid = grid;
            black = 0;
            white = 0;
        }

        void become(Board other) {
            grid = other.grid;
            black = other.black;
            white = other.white;
        }

        long stonesOf(int colour) {
            return colour == BLACK ? black : white;
        }

        long emptyPlaces() {
            return grid.allBut(black | white);
        }

        long withoutStonesOf(int colour) {
            return grid.allBut(stonesOf(colour));
        }

        int stoneNumber() {
            return Long.bitCount(black | white);
        }

        int colourAt(int place) {
            long here = 1L << place;
            if ((black & here) != 0) {
                return BLACK;
            }
            return (white & here) != 0 ? WHITE : 0;
        }

        /** The chain of the stone; no places if there is no stone. */
        long chainAt(int place) {
            int colour = colourAt(place);
            return colour == 0 ? 0 : grid.reach(1L << place, stonesOf(colour));
        }

        long freedomsOf(long chain) {
            return grid.freedoms(chain, black | white);
        }

        int chainsWithin(int colour, int mostFreedoms) {
            long stones = stonesOf(colour);
            long rest = stones;
            int found = 0;
            for (int at = 0; at < grid.places; at++) {
                if ((rest & 1L << at) != 0) {
                    long chain = grid.reach(1L << at, stones);
                    rest &= ~chain;
                    if (Long.bitCount(freedomsOf(chain)) <= mostFreedoms) {
                        found++;
                    }
                }
            }
            return found;
        }

        int weakestChain(int colour) {
            long stones = stonesOf(colour);
            long rest = stones;
            int best = NONE;
            int fewestFreedoms = 0;
            int mostStones = 0;
            for (int at = 0; at < grid.places; at++) {
                if ((rest & 1L << at) != 0) {
                    long chain = grid.reach(1L << at, stones);
                    rest &= ~chain;
                    int free = Long.bitCount(freedomsOf(chain));
                    int size = Long.bitCount(chain);
                    if (best == NONE || free < fewestFreedoms || free == fewestFreedoms && size > mostStones) {
                        best = at;
                        fewestFreedoms = free;
                        mostStones = size;
                    }
                }
            }
            return best;
        }

        long capturedBy(int place, int colour) {
            long other = stonesOf(BOTH - colour);
            return grid.stuckOf(other, black | white | 1L << place);
        }

        long chainMadeBy(int place, int colour) {
            return grid.reach(1L << place, stonesOf(colour) | 1L << place);
        }

        long freedomsMadeBy(int place, int colour) {
            long taken = (black | white | 1L << place) & ~capturedBy(place, colour);
            return grid.freedoms(chainMadeBy(place, colour), taken);
        }

        /** The stones of a colour that lie behind a move of either colour. */
        long stonesBehind(int place, int mover, int colour) {
            if (colour == mover) {
                return stonesOf(colour) | 1L << place;
            }
            return stonesOf(colour) & ~capturedBy(place, mover);
        }

        /** The pool of the empty place; no places if there is a stone. */
        long poolAt(int place) {
            return colourAt(place) != 0 ? 0 : grid.reach(1L << place, emptyPlaces());
        }

        int ownersOf(long pool) {
            long around = grid.around(pool);
            return ((around & black) != 0 ? BLACK : 0) | ((around & white) != 0 ? WHITE : 0);
        }

        long emptyPlacesNear(long stones) {
            long empty = emptyPlaces();
            return grid.reach(empty & grid.around(stones), empty);
        }

        long emptyPlacesOwnedBy(int owners) {
            long nearBlack = emptyPlacesNear(black);
            long nearWhite = emptyPlacesNear(white);
            long blackFits = (owners & BLACK) != 0 ? nearBlack : ~nearBlack;
            long whiteFits = (owners & WHITE) != 0 ? nearWhite : ~nearWhite;
            return emptyPlaces() & blackFits & whiteFits;
        }

        int chainsBeside(long pool, int colour) {
            long stones = stonesOf(colour);
            return grid.groups(grid.around(pool) & stones, stones);
        }

        boolean ownsTogether(long pool) {
            int owners = ownersOf(pool);
            return (owners == BLACK || owners == WHITE) && chainsBeside(pool, owners) > 1;
        }

        boolean keepsBothOut(long pool) {
            if (ownersOf(pool) != BOTH) {
                return false;
            }
            for (int at = 0; at < grid.places; at++) {
                if ((pool & 1L << at) != 0) {
                    int forBlack = Long.bitCount(freedomsMadeBy(at, BLACK));
                    int forWhite = Long.bitCount(freedomsMadeBy(at, WHITE));
                    if (forBlack > 1 || forWhite > 1) {
                        return false;
                    }
                }
            }
            return true;
        }

        /** Counts the regions vital to a chain among these ones, which are given by all their places. */
        int vitalRegions(long chain, long regions) {
            long freedoms = freedomsOf(chain);
            long spoiled = grid.reach(regions & emptyPlaces() & ~freedoms, regions);
            return grid.groups(regions & freedoms & ~spoiled, regions);
        }

        long livingStones(int colour) {
            long living = stonesOf(colour);
            long regions = withoutStonesOf(colour);
            for (int round = 0; round < grid.places; round++) {
                long leftOut = lackingRegions(living, regions);
                if (leftOut == 0) {
                    return living;
                }
                living &= ~leftOut;
                regions &= ~grid.reach(regions & grid.around(leftOut), regions);
            }
            return living;
        }

        private long lackingRegions(long stones, long regions) {
            long rest = stones;
            long lacking = 0;
            for (int at = 0; at < grid.places; at++) {
                if ((rest & 1L << at) != 0) {
                    long chain = grid.reach(1L << at, stones);
                    rest &= ~chain;
                    if (vitalRegions(chain, regions) < 2) {
                        lacking |= chain;
                    }
                }
            }
            return lacking;
        }

        int areaOf(int colour) {
            return Long.bitCount(stonesOf(colour)) + Long.bitCount(emptyPlacesOwnedBy(colour));
        }
    }

    /** Looks how a chain can be caught, on stones that nobody really puts. */
    private static final class Hunt {
        private static final int MOST_MOVES = 8;
        private static final int NEVER = 100;

        private Hunt() {
        }

        static int fewestMoves(Board board, int place) {
            int colour = board.colourAt(place);
            long own = board.stonesOf(colour);
            long catcher = board.stonesOf(BOTH - colour);
            int fewest = tryAll(board.grid, own, catcher, 1L << place, MOST_MOVES);
            return fewest > MOST_MOVES ? NONE : fewest;
        }

        /** The fewest moves by which the chain that holds the target can be caught; more than most if there are none. */
        private static int tryAll(Grid grid, long own, long catcher, long target, int most) {
            long chain = grid.reach(target, own);
            long freedoms = grid.freedoms(chain, own | catcher);
            // A move takes one freedom and frees none beside the chain: of three, two are left.
            if (most < 1 || Long.bitCount(freedoms) > 2) {
                return NEVER;
            }
            int fewest = NEVER;
            for (int at = 0; at < grid.places; at++) {
                if ((freedoms & 1L << at) != 0) {
                    fewest = Math.min(fewest, tryOne(grid, own, catcher, chain, 1L << at, most));
                }
            }
            return fewest;
        }

        private static int tryOne(Grid grid, long own, long catcher, long chain, long put, int most) {
            long catching = catcher | put;
            long captured = grid.stuckOf(own, own | catching);
            if ((captured & chain) != 0) {
                return 1;
            }
            long left = own & ~captured;
            long taken = left | catching;
            boolean refused = grid.freedoms(grid.reach(put, catching), taken) == 0;
            long way = grid.freedoms(chain, taken);
            if (refused || most < 2 || Long.bitCount(way) != 1) {
                return NEVER;
            }
            return 1 + tryBehindEscape(grid, left, catching, way, most - 1);
        }

        private static int tryBehindEscape(Grid grid, long own, long catcher, long way, int most) {
            long escaped = own | way;
            long left = catcher & ~grid.stuckOf(catcher, escaped | catcher);
            if (grid.freedoms(grid.reach(way, escaped), escaped | left) == 0) {
                return 1;
            }
            return tryAll(grid, escaped, left, way, most);
        }
    }

    /** The latest positions of the stones, the newest one first. */
    private static final class Positions {
        private static final int MOST = 30;

        private final long[] black;
        private final long[] white;
        private int held;

        Positions() {
            black = new long[MOST];
            white = new long[MOST];
            held = 0;
        }

        void become(Positions other) {
            for (int i = 0; i < MOST; i++) {
                black[i] = other.black[i];
                white[i] = other.white[i];
            }
            held = other.held;
        }

        void beginWith(long firstBlack, long firstWhite) {
            held = 0;
            add(firstBlack, firstWhite);
        }

        void add(long newBlack, long newWhite) {
            for (int i = MOST - 1; i > 0; i--) {
                black[i] = black[i - 1];
                white[i] = white[i - 1];
            }
            black[0] = newBlack;
            white[0] = newWhite;
            held = Math.min(held + 1, MOST);
        }

        boolean has(long someBlack, long someWhite) {
            for (int i = 0; i < held && i < MOST; i++) {
                if (black[i] == someBlack && white[i] == someWhite) {
                    return true;
                }
            }
            return false;
        }
    }

    /** All that a change changes and that undo brings back. */
    private static final class Game {
        final Board board;
        final Positions positions;
        int turn;
        int movesMade;
        int passes;
        int capturedBlack;
        int capturedWhite;
        int banned;
        int rule;
        int bonus;

        Game() {
            board = new Board(new Grid(1, FEWEST_SECTORS));
            positions = new Positions();
            turn = BLACK;
            rule = 0;
            bonus = 0;
            begin(board.grid, 0, 0);
        }

        void begin(Grid grid, long black, long white) {
            board.grid = grid;
            movesMade = 0;
            capturedBlack = 0;
            capturedWhite = 0;
            replaceStones(black, white);
        }

        void become(Game other) {
            board.become(other.board);
            positions.become(other.positions);
            turn = other.turn;
            movesMade = other.movesMade;
            passes = other.passes;
            capturedBlack = other.capturedBlack;
            capturedWhite = other.capturedWhite;
            banned = other.banned;
            rule = other.rule;
            bonus = other.bonus;
        }

        void replaceStones(long black, long white) {
            board.black = black;
            board.white = white;
            banned = NONE;
            passes = 0;
            positions.beginWith(black, white);
        }

        boolean isOver() {
            return passes >= 2;
        }

        int refusal(int place, int colour) {
            if (isOver()) {
                return 1;
            }
            if (board.colourAt(place) != 0) {
                return 2;
            }
            if (place == banned && colour == turn) {
                return 3;
            }
            if (board.freedomsMadeBy(place, colour) == 0) {
                return 4;
            }
            if (rule == 0) {
                return 0;
            }
            long black = board.stonesBehind(place, colour, BLACK);
            long white = board.stonesBehind(place, colour, WHITE);
            return positions.has(black, white) ? 5 : 0;
        }

        /** Makes a move that is not refused; returns the number of captured stones. */
        int putAndTake(int place) {
            long taken = board.capturedBy(place, turn);
            int captured = Long.bitCount(taken);
            boolean alone = Long.bitCount(board.chainMadeBy(place, turn)) == 1
                && Long.bitCount(board.freedomsMadeBy(place, turn)) == 1;
            long black = board.stonesBehind(place, turn, BLACK);
            long white = board.stonesBehind(place, turn, WHITE);
            board.black = black;
            board.white = white;
            positions.add(black, white);
            banned = captured == 1 && alone ? lowestOf(taken) : NONE;
            if (turn == BLACK) {
                capturedWhite += captured;
            } else {
                capturedBlack += captured;
            }
            movesMade++;
            passes = 0;
            turn = BOTH - turn;
            return captured;
        }

        int passOn() {
            passes++;
            banned = NONE;
            turn = BOTH - turn;
            return passes;
        }

        char letterAt(int place) {
            if (place == banned) {
                return 'x';
            }
            switch (board.colourAt(place)) {
                case BLACK: return 'b';
                case WHITE: return 'w';
                default: return 'o';
            }
        }
    }

    /** The text buffer, and what the latest text told as far as it could be read. */
    private static final class Reader {
        private static final int CAPACITY = 300;
        private static final int END = -1;
        private static final int TOO_LARGE = 1000;

        private final byte[] text;
        private int length;
        private int at;
        private int error;
        private int rings;
        private int sectors;
        int held;
        int errorAt;
        int rule;
        int bonus;
        int turn;
        long black;
        long white;
        Grid grid;

        Reader() {
            text = new byte[CAPACITY];
            grid = new Grid(1, FEWEST_SECTORS);
            held = 0;
            errorAt = NONE;
        }

        void takeFour(int bytes) {
            for (int shift = 24; shift >= 0; shift -= 8) {
                if (held >= 0 && held < CAPACITY) {
                    text[held] = (byte) (bytes >>> shift);
                    held++;
                }
            }
        }

        /** Reads the first bytes of the buffer and empties it; returns the code of the first error, or 0. */
        int readText(int bytes) {
            length = bytes;
            at = 0;
            error = 0;
            errorAt = NONE;
            rule = 0;
            bonus = 0;
            turn = BLACK;
            black = 0;
            white = 0;
            if (readSize() && readOptions() && readRows() && readEnd()) {
                grid = new Grid(rings, sectors);
                if (grid.hasStuckChain(black, white)) {
                    fail(VALUE_ERROR, length);
                }
            }
            held = 0;
            return error;
        }

        private boolean readSize() {
            if (!takeWord("board")) {
                return fail(SYNTAX_ERROR, at);
            }
            rings = takeNumber(1, MOST_RINGS);
            if (rings == NONE) {
                return false;
            }
            sectors = takeNumber(FEWEST_SECTORS, MOST_SECTORS);
            return sectors != NONE && takeSemicolon();
        }

        /** Reads as long as options come; whether what follows may stand there is seen by the rows. */
        private boolean readOptions() {
            for (int i = 0; i < length; i++) {
                boolean fits;
                if (takeWord("rule")) {
                    rule = takeNumber(0, 1);
                    fits = rule != NONE;
                } else if (takeWord("bonus")) {
                    bonus = takeNumber(0, MOST_BONUS);
                    fits = bonus != NONE;
                } else if (takeWord("turn")) {
                    fits = readTurn();
                } else {
                    return true;
                }
                if (!fits || !takeSemicolon()) {
                    return false;
                }
            }
            return true;
        }

        private boolean readTurn() {
            if (takeWord("black")) {
                turn = BLACK;
                return true;
            }
            turn = WHITE;
            return takeWord("white") || fail(SYNTAX_ERROR, at);
        }

        private boolean readRows() {
            for (int ring = 0; ring < rings; ring++) {
                if (!takeWord("row")) {
                    return fail(SYNTAX_ERROR, at);
                }
                if (!takeLetters(sectors * ring) || !takeSemicolon()) {
                    return false;
                }
            }
            return true;
        }

        private boolean readEnd() {
            skipSpaces();
            return at == length || fail(SYNTAX_ERROR, at);
        }

        private boolean takeLetters(int firstPlace) {
            skipSpaces();
            int end = wordEnd();
            if (end == at) {
                return fail(SYNTAX_ERROR, at);
            }
            if (end - at != sectors) {
                return fail(VALUE_ERROR, at);
            }
            for (int sector = 0; sector < sectors; sector++) {
                if (!putLetter(byteAt(at + sector), 1L << firstPlace + sector)) {
                    return fail(VALUE_ERROR, at);
                }
            }
            at = end;
            return true;
        }

        private boolean putLetter(int letter, long here) {
            switch (letter) {
                case 'o': return true;
                case 'b': black |= here; return true;
                case 'w': white |= here; return true;
                default: return false;
            }
        }

        /** Returns the number, or NONE behind an error. */
        private int takeNumber(int least, int most) {
            skipSpaces();
            int start = at;
            int value = 0;
            for (; at < length && isDigit(byteAt(at)); at++) {
                value = Math.min(10 * value + byteAt(at) - '0', TOO_LARGE);
            }
            if (at == start) {
                fail(SYNTAX_ERROR, start);
                return NONE;
            }
            if (value < least || value > most) {
                fail(VALUE_ERROR, start);
                return NONE;
            }
            return value;
        }

        /** Goes behind the word if it is the next token; if it is not, that is no error yet. */
        private boolean takeWord(String word) {
            skipSpaces();
            if (wordEnd() - at != word.length()) {
                return false;
            }
            for (int i = 0; i < word.length(); i++) {
                if (byteAt(at + i) != word.charAt(i)) {
                    return false;
                }
            }
            at += word.length();
            return true;
        }

        private boolean takeSemicolon() {
            skipSpaces();
            if (byteAt(at) != ';') {
                return fail(SYNTAX_ERROR, at);
            }
            at++;
            return true;
        }

        private void skipSpaces() {
            while (at < length && byteAt(at) == ' ') {
                at++;
            }
        }

        private int wordEnd() {
            int end = at;
            while (end < length && isLetter(byteAt(end))) {
                end++;
            }
            return end;
        }

        private int byteAt(int index) {
            return index >= 0 && index < length && index < CAPACITY ? text[index] & 255 : END;
        }

        private static boolean isLetter(int letter) {
            return letter >= 'a' && letter <= 'z';
        }

        private static boolean isDigit(int digit) {
            return digit >= '0' && digit <= '9';
        }

        private boolean fail(int code, int position) {
            error = code;
            errorAt = position;
            return false;
        }
    }
}
