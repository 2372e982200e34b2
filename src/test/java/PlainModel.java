import java.util.ArrayList;
import java.util.Arrays;
import java.util.List;
import java.util.NoSuchElementException;
import java.util.Set;
import java.util.TreeSet;
import java.util.function.IntPredicate;

/**
 * The document once more, sentence by sentence, with sets and lists and without a thought of speed: the tests
 * compare the class with it.
 */
final class PlainModel {
    private static final class State {
        int rings = 1;
        int sectors = 3;
        int[] stones = new int[3];
        int turn = 1;
        int moves = 0;
        int passes = 0;
        int[] captured = new int[3];
        int banned = -1;
        int rule = 0;
        int bonus = 0;
        List<String> positions = new ArrayList<>(List.of("[0, 0, 0]"));

        State copy() {
            State s = new State();
            s.rings = rings;
            s.sectors = sectors;
            s.stones = stones.clone();
            s.turn = turn;
            s.moves = moves;
            s.passes = passes;
            s.captured = captured.clone();
            s.banned = banned;
            s.rule = rule;
            s.bonus = bonus;
            s.positions = new ArrayList<>(positions);
            return s;
        }
    }

    private static final class TextError extends RuntimeException {
        private static final long serialVersionUID = 1;
        final int code;
        final int position;

        TextError(int code, int position) {
            this.code = code;
            this.position = position;
        }
    }

    private State now = new State();
    private final List<State> before = new ArrayList<>();
    private final State[] slots = new State[2];
    private String buffer = "";
    private int errorAt = -1;
    private String written = "";

    // ---- places, chains, regions

    private int places() {
        return now.rings * now.sectors;
    }

    private int beside(int place, int direction) {
        int ring = place / now.sectors;
        int sector = place % now.sectors;
        switch (direction) {
            case 0: return ring * now.sectors + (sector + 1) % now.sectors;
            case 1: return ring * now.sectors + (sector + now.sectors - 1) % now.sectors;
            case 2: return ring + 1 < now.rings ? place + now.sectors : -1;
            default: return ring > 0 ? place - now.sectors : -1;
        }
    }

    private Set<Integer> neighbours(int place) {
        Set<Integer> all = new TreeSet<>();
        for (int direction = 0; direction < 4; direction++) {
            if (beside(place, direction) >= 0) {
                all.add(beside(place, direction));
            }
        }
        return all;
    }

    private Set<Integer> reached(int from, IntPredicate within) {
        Set<Integer> all = new TreeSet<>();
        List<Integer> open = new ArrayList<>(List.of(from));
        while (!open.isEmpty()) {
            int place = open.remove(open.size() - 1);
            if (all.add(place)) {
                for (int next : neighbours(place)) {
                    if (within.test(next)) {
                        open.add(next);
                    }
                }
            }
        }
        return all;
    }

    private List<Set<Integer>> groups(IntPredicate within) {
        List<Set<Integer>> all = new ArrayList<>();
        for (int place = 0; place < places(); place++) {
            if (within.test(place)) {
                Set<Integer> group = reached(place, within);
                if (lowest(group) == place) {
                    all.add(group);
                }
            }
        }
        return all;
    }

    private static int lowest(Set<Integer> set) {
        return ((TreeSet<Integer>) set).first();
    }

    private Set<Integer> chainOf(int[] stones, int place) {
        int colour = stones[place];
        return reached(place, p -> stones[p] == colour);
    }

    private Set<Integer> freedomsOf(int[] stones, Set<Integer> chain) {
        Set<Integer> all = new TreeSet<>();
        for (int place : chain) {
            for (int next : neighbours(place)) {
                if (stones[next] == 0) {
                    all.add(next);
                }
            }
        }
        return all;
    }

    private List<Set<Integer>> chainsOf(int[] stones, int colour) {
        return groups(p -> stones[p] == colour);
    }

    private boolean isVital(Set<Integer> region, Set<Integer> chain) {
        Set<Integer> empty = new TreeSet<>(region);
        empty.removeIf(p -> now.stones[p] != 0);
        return !empty.isEmpty() && freedomsOf(now.stones, chain).containsAll(empty);
    }

    // ---- moves

    /** The stones behind a move, whether its chain has a freedom or not. */
    private int[] behind(int[] stones, int place, int colour) {
        int[] after = stones.clone();
        after[place] = colour;
        int[] left = after.clone();
        for (Set<Integer> chain : chainsOf(after, 3 - colour)) {
            if (freedomsOf(after, chain).isEmpty()) {
                for (int p : chain) {
                    left[p] = 0;
                }
            }
        }
        return left;
    }

    private boolean isStuck(int[] after, int place) {
        return freedomsOf(after, chainOf(after, place)).isEmpty();
    }

    private static int stonesOf(int[] stones, int colour) {
        return (int) Arrays.stream(stones).filter(s -> s == colour).count();
    }

    private int refusal(int place, int colour) {
        if (now.passes == 2) {
            return 1;
        }
        if (now.stones[place] != 0) {
            return 2;
        }
        if (now.banned == place && colour == now.turn) {
            return 3;
        }
        int[] after = behind(now.stones, place, colour);
        if (isStuck(after, place)) {
            return 4;
        }
        List<String> all = now.positions;
        List<String> latest = all.subList(Math.max(0, all.size() - 30), all.size());
        return now.rule == 1 && latest.contains(Arrays.toString(after)) ? 5 : 0;
    }

    private int captures(int place, int colour) {
        int[] after = behind(now.stones, place, colour);
        return stonesOf(now.stones, 3 - colour) - stonesOf(after, 3 - colour);
    }

    private boolean canBeCaught(int[] stones, int place, int n) {
        int own = stones[place];
        Set<Integer> chain = chainOf(stones, place);
        for (int put : freedomsOf(stones, chain)) {
            int[] after = behind(stones, put, 3 - own);
            if (isStuck(after, put)) {
                continue;
            }
            if (after[place] == 0) {
                return true;
            }
            Set<Integer> free = freedomsOf(after, chainOf(after, place));
            if (n >= 2 && free.size() == 1) {
                int way = lowest(free);
                int[] escaped = behind(after, way, own);
                if (isStuck(escaped, way) || canBeCaught(escaped, place, n - 1)) {
                    return true;
                }
            }
        }
        return false;
    }

    private void change() {
        before.add(now.copy());
        if (before.size() > 8) {
            before.remove(0);
        }
    }

    private void beginPositions() {
        now.positions = new ArrayList<>(List.of(Arrays.toString(now.stones)));
    }

    // ---- checks

    private void placeMustBe(int place) {
        if (place < 0 || place >= places()) {
            throw new IndexOutOfBoundsException();
        }
    }

    private static void mustLie(int value, int least, int most) {
        if (value < least || value > most) {
            throw new IllegalArgumentException();
        }
    }

    private static void indexMustLie(int index, int length) {
        if (index < 0 || index >= length) {
            throw new IndexOutOfBoundsException();
        }
    }

    private int stoneNumber() {
        return stonesOf(now.stones, 1) + stonesOf(now.stones, 2);
    }

    // ---- the face

    int append(int a, int b, int c, int d, int e) {
        if (buffer.length() + 20 > 300) {
            throw new IllegalStateException();
        }
        StringBuilder more = new StringBuilder(buffer);
        for (int four : new int[] {a, b, c, d, e}) {
            more.append((char) (four >> 24 & 255)).append((char) (four >> 16 & 255));
            more.append((char) (four >> 8 & 255)).append((char) (four & 255));
        }
        buffer = more.toString();
        return buffer.length();
    }

    int load(int length) {
        mustLie(length, 0, buffer.length());
        String text = buffer.substring(0, length);
        buffer = "";
        try {
            State read = new Parser(text).board();
            change();
            now = read;
            errorAt = -1;
            return stoneNumber();
        } catch (TextError e) {
            errorAt = e.position;
            return e.code;
        }
    }

    int errorPosition() {
        return errorAt;
    }

    int count(int what) {
        mustLie(what, 0, 11);
        return new int[] {now.rings, now.sectors, stonesOf(now.stones, 1), stonesOf(now.stones, 2), now.turn, now.moves,
            now.passes, now.captured[1], now.captured[2], now.banned, now.rule, now.bonus}[what];
    }

    int place(int ring, int sector) {
        indexMustLie(ring, now.rings);
        indexMustLie(sector, now.sectors);
        return now.sectors * ring + sector;
    }

    int neighbour(int place, int direction) {
        placeMustBe(place);
        mustLie(direction, 0, 3);
        return beside(place, direction);
    }

    int stone(int place) {
        placeMustBe(place);
        return now.stones[place];
    }

    int chain(int place, int what) {
        placeMustBe(place);
        mustLie(what, 0, 4);
        if (now.stones[place] == 0) {
            throw new NoSuchElementException();
        }
        Set<Integer> chain = chainOf(now.stones, place);
        Set<Integer> free = freedomsOf(now.stones, chain);
        int colour = now.stones[place];
        switch (what) {
            case 0: return lowest(chain);
            case 1: return chain.size();
            case 2: return free.size();
            case 3: return lowest(free);
            default: return (int) groups(p -> now.stones[p] != colour).stream().filter(r -> isVital(r, chain)).count();
        }
    }

    int freedom(int place, int index) {
        placeMustBe(place);
        if (now.stones[place] == 0) {
            throw new IndexOutOfBoundsException();
        }
        List<Integer> free = new ArrayList<>(freedomsOf(now.stones, chainOf(now.stones, place)));
        indexMustLie(index, free.size());
        return free.get(index);
    }

    int chains(int colour, int most) {
        mustLie(colour, 1, 2);
        int found = 0;
        for (Set<Integer> chain : chainsOf(now.stones, colour)) {
            if (freedomsOf(now.stones, chain).size() <= most) {
                found++;
            }
        }
        return found;
    }

    int weakest(int colour) {
        mustLie(colour, 1, 2);
        List<Set<Integer>> all = chainsOf(now.stones, colour);
        if (all.isEmpty()) {
            throw new NoSuchElementException();
        }
        all.sort((c, d) -> {
            int byFreedoms = freedomsOf(now.stones, c).size() - freedomsOf(now.stones, d).size();
            int byStones = d.size() - c.size();
            return byFreedoms != 0 ? byFreedoms : byStones != 0 ? byStones : lowest(c) - lowest(d);
        });
        return lowest(all.get(0));
    }

    int reason(int place, int colour) {
        placeMustBe(place);
        mustLie(colour, 1, 2);
        return refusal(place, colour);
    }

    int play(int place) {
        placeMustBe(place);
        int colour = now.turn;
        if (refusal(place, colour) != 0) {
            throw new IllegalStateException();
        }
        change();
        int[] old = now.stones;
        int taken = captures(place, colour);
        now.stones = behind(old, place, colour);
        now.banned = -1;
        Set<Integer> chain = chainOf(now.stones, place);
        if (taken == 1 && chain.size() == 1 && freedomsOf(now.stones, chain).size() == 1) {
            for (int p = 0; p < places(); p++) {
                if (old[p] == 3 - colour && now.stones[p] == 0) {
                    now.banned = p;
                }
            }
        }
        now.captured[3 - colour] += taken;
        now.positions.add(Arrays.toString(now.stones));
        now.moves++;
        now.passes = 0;
        now.turn = 3 - colour;
        return taken;
    }

    int pass() {
        if (now.passes == 2) {
            throw new IllegalStateException();
        }
        change();
        now.passes++;
        now.banned = -1;
        now.turn = 3 - now.turn;
        return now.passes;
    }

    int move(int place, int colour, int what) {
        placeMustBe(place);
        mustLie(colour, 1, 2);
        mustLie(what, 0, 2);
        if (now.stones[place] != 0) {
            throw new IllegalStateException();
        }
        int[] after = behind(now.stones, place, colour);
        Set<Integer> chain = chainOf(after, place);
        return what == 0 ? captures(place, colour) : what == 1 ? chain.size() : freedomsOf(after, chain).size();
    }

    int moves(int colour) {
        mustLie(colour, 1, 2);
        int found = 0;
        for (int p = 0; p < places(); p++) {
            found += refusal(p, colour) == 0 ? 1 : 0;
        }
        return found;
    }

    int greediest(int colour) {
        mustLie(colour, 1, 2);
        int best = -1;
        for (int p = 0; p < places(); p++) {
            if (refusal(p, colour) == 0 && (best < 0 || captures(p, colour) > captures(best, colour))) {
                best = p;
            }
        }
        if (best < 0) {
            throw new NoSuchElementException();
        }
        return best;
    }

    int setStone(int place, int colour) {
        placeMustBe(place);
        mustLie(colour, 0, 2);
        int[] after = now.stones.clone();
        after[place] = colour;
        if (hasStuckChain(after)) {
            throw new IllegalStateException();
        }
        change();
        int old = now.stones[place];
        now.stones = after;
        now.banned = -1;
        now.passes = 0;
        beginPositions();
        return old;
    }

    private boolean hasStuckChain(int[] stones) {
        for (int p = 0; p < stones.length; p++) {
            if (stones[p] != 0 && isStuck(stones, p)) {
                return true;
            }
        }
        return false;
    }

    int setTurn(int colour) {
        mustLie(colour, 1, 2);
        change();
        int old = now.turn;
        now.turn = colour;
        now.banned = -1;
        now.passes = 0;
        return old;
    }

    int setRule(int rule) {
        mustLie(rule, 0, 1);
        change();
        int old = now.rule;
        now.rule = rule;
        beginPositions();
        return old;
    }

    int setBonus(int bonus) {
        mustLie(bonus, -99, 99);
        change();
        int old = now.bonus;
        now.bonus = bonus;
        return old;
    }

    // ---- pools

    private List<Set<Integer>> allPools() {
        return groups(p -> now.stones[p] == 0);
    }

    private int ownersOf(Set<Integer> pool) {
        int owners = 0;
        for (int p : pool) {
            for (int next : neighbours(p)) {
                owners |= now.stones[next];
            }
        }
        return owners;
    }

    private int chainsBeside(Set<Integer> pool, int colour) {
        int found = 0;
        for (Set<Integer> chain : chainsOf(now.stones, colour)) {
            Set<Integer> shared = freedomsOf(now.stones, chain);
            shared.retainAll(pool);
            found += shared.isEmpty() ? 0 : 1;
        }
        return found;
    }

    int pools(int owners) {
        mustLie(owners, -1, 3);
        return (int) allPools().stream().filter(pool -> owners == -1 || ownersOf(pool) == owners).count();
    }

    int pool(int place, int what) {
        placeMustBe(place);
        mustLie(what, 0, 4);
        if (now.stones[place] != 0) {
            throw new NoSuchElementException();
        }
        Set<Integer> pool = chainOf(now.stones, place);
        switch (what) {
            case 0: return lowest(pool);
            case 1: return pool.size();
            case 2: return ownersOf(pool);
            default: return chainsBeside(pool, what - 2);
        }
    }

    boolean isSharedEye(int place) {
        placeMustBe(place);
        if (now.stones[place] != 0) {
            return false;
        }
        Set<Integer> pool = chainOf(now.stones, place);
        int owners = ownersOf(pool);
        return owners != 0 && owners != 3 && chainsBeside(pool, 1) + chainsBeside(pool, 2) >= 2;
    }

    boolean isStandoff(int place) {
        placeMustBe(place);
        if (now.stones[place] != 0) {
            return false;
        }
        Set<Integer> pool = chainOf(now.stones, place);
        boolean keepsOut = ownersOf(pool) == 3;
        for (int p : pool) {
            keepsOut &= move(p, 1, 2) <= 1 && move(p, 2, 2) <= 1;
        }
        return keepsOut;
    }

    // ---- life and catching

    private List<Set<Integer>> living(int colour) {
        List<Set<Integer>> chains = chainsOf(now.stones, colour);
        List<Set<Integer>> regions = groups(p -> now.stones[p] != colour);
        while (true) {
            List<Set<Integer>> out = new ArrayList<>();
            for (Set<Integer> chain : chains) {
                if (regions.stream().filter(r -> isVital(r, chain)).count() < 2) {
                    out.add(chain);
                }
            }
            if (out.isEmpty()) {
                return chains;
            }
            chains.removeAll(out);
            regions.removeIf(r -> r.stream().anyMatch(p -> neighbours(p).stream().anyMatch(
                q -> out.stream().anyMatch(chain -> chain.contains(q)))));
        }
    }

    boolean isAlive(int place) {
        placeMustBe(place);
        return now.stones[place] != 0 && living(now.stones[place]).stream().anyMatch(chain -> chain.contains(place));
    }

    int alive(int colour) {
        mustLie(colour, 1, 2);
        return living(colour).stream().mapToInt(Set::size).sum();
    }

    int caughtBy(int place) {
        placeMustBe(place);
        if (now.stones[place] == 0) {
            throw new NoSuchElementException();
        }
        for (int n = 1; n <= 8; n++) {
            if (canBeCaught(now.stones, place, n)) {
                return n;
            }
        }
        return -1;
    }

    // ---- areas

    int area(int colour) {
        mustLie(colour, 1, 2);
        int area = stonesOf(now.stones, colour);
        for (Set<Integer> pool : allPools()) {
            area += ownersOf(pool) == colour ? pool.size() : 0;
        }
        return area;
    }

    int score() {
        return area(1) - area(2) - now.bonus;
    }

    float share(int colour) {
        return (float) area(colour) / (float) places();
    }

    // ---- texts, undo and slots

    int writeRing(int ring) {
        indexMustLie(ring, now.rings);
        StringBuilder text = new StringBuilder();
        for (int s = 0; s < now.sectors; s++) {
            int place = place(ring, s);
            text.append(place == now.banned ? 'x' : "obw".charAt(now.stones[place]));
        }
        written = text.toString();
        return written.length();
    }

    int writtenByte(int index) {
        indexMustLie(index, written.length());
        return written.charAt(index);
    }

    int undo() {
        if (before.isEmpty()) {
            throw new IllegalStateException();
        }
        now = before.remove(before.size() - 1);
        return before.size();
    }

    int save(int slot) {
        indexMustLie(slot, 2);
        slots[slot] = now.copy();
        return stoneNumber();
    }

    int restore(int slot) {
        indexMustLie(slot, 2);
        if (slots[slot] == null) {
            throw new IllegalStateException();
        }
        change();
        now = slots[slot].copy();
        return stoneNumber();
    }

    int differing(int slot) {
        indexMustLie(slot, 2);
        State saved = slots[slot];
        if (saved == null || saved.rings != now.rings || saved.sectors != now.sectors) {
            return -1;
        }
        int found = 0;
        for (int p = 0; p < places(); p++) {
            found += saved.stones[p] != now.stones[p] ? 1 : 0;
        }
        return found;
    }

    // ---- texts

    private final class Parser {
        private final List<String> tokens = new ArrayList<>();
        private final List<Integer> starts = new ArrayList<>();
        private final int end;
        private int next = 0;

        /** Splits the text; a byte that begins no token becomes a token that fits nowhere. */
        Parser(String text) {
            end = text.length();
            java.util.regex.Matcher m = java.util.regex.Pattern.compile(" *([a-z]+|[0-9]+|[^ ])", java.util.regex.Pattern.DOTALL)
                .matcher(text);
            while (m.lookingAt()) {
                tokens.add(m.group(1));
                starts.add(m.start(1));
                m.region(m.end(), end);
            }
        }

        private String token() {
            return next < tokens.size() ? tokens.get(next) : "";
        }

        private int start() {
            return next < tokens.size() ? starts.get(next) : end;
        }

        private TextError error(int code) {
            return new TextError(code, start());
        }

        private boolean skips(String token) {
            boolean fits = token().equals(token);
            next += fits ? 1 : 0;
            return fits;
        }

        private void expect(String token) {
            if (!skips(token)) {
                throw error(-2);
            }
        }

        private int number(int least, int most) {
            if (!token().matches("[0-9]+")) {
                throw error(-2);
            }
            java.math.BigInteger value = new java.math.BigInteger(token());
            if (value.compareTo(java.math.BigInteger.valueOf(least)) < 0
                || value.compareTo(java.math.BigInteger.valueOf(most)) > 0) {
                throw error(-3);
            }
            next++;
            return value.intValue();
        }

        State board() {
            State read = new State();
            expect("board");
            read.rings = number(1, 5);
            read.sectors = number(3, 12);
            expect(";");
            while (true) {
                if (skips("rule")) {
                    read.rule = number(0, 1);
                } else if (skips("bonus")) {
                    read.bonus = number(0, 99);
                } else if (skips("turn")) {
                    read.turn = token().equals("white") ? 2 : 1;
                    if (!skips("white")) {
                        expect("black");
                    }
                } else {
                    break;
                }
                expect(";");
            }
            StringBuilder letters = new StringBuilder();
            for (int ring = 0; ring < read.rings; ring++) {
                expect("row");
                if (!token().matches("[a-z]+")) {
                    throw error(-2);
                }
                if (!token().matches("[obw]{" + read.sectors + "}")) {
                    throw error(-3);
                }
                letters.append(token());
                next++;
                expect(";");
            }
            if (next < tokens.size()) {
                throw error(-2);
            }
            read.stones = letters.chars().map("obw"::indexOf).toArray();
            read.positions = new ArrayList<>(List.of(Arrays.toString(read.stones)));
            State present = now;
            now = read;
            boolean stuck = hasStuckChain(read.stones);
            now = present;
            if (stuck) {
                throw new TextError(-3, end);
            }
            return read;
        }
    }
}
