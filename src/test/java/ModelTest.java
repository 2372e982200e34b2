import java.util.Random;

/** Long runs of calls, the same in every test run, on the class and on the plain model: they must answer alike. */
public final class ModelTest {
    private static final int RUNS = 1500;
    private static final int CALLS = 512;
    private static final String[] PIECES = {"board", "rule", "bonus", "turn", "black", "white", "row", ";", " ", "0", "1",
        "12", "99", "100", "x", "obw", "A", "/", ":", "`", "{", "\u0000", "\u00ff", "ro", "rowooo", "0000000000000000001",
        "18446744073709551617", "\t", "3 3", "-1"};

    private final Random random;
    private final RingStones mine = new RingStones();
    private final PlainModel plain = new PlainModel();
    private int calls = 0;
    private String trail = "";

    private ModelTest(long seed) {
        random = new Random(seed);
    }

    public static void main(String[] args) {
        int runs = args.length > 1 ? Integer.parseInt(args[1]) : RUNS;
        long first = args.length > 2 ? Long.parseLong(args[2]) : 0;
        for (long seed = first; seed < first + runs; seed++) {
            new ModelTest(seed).run(seed);
        }
        Due.end();
    }

    private void run(long seed) {
        trail = "seed " + seed + " ";
        int style = random.nextInt(5);
        while (calls < CALLS) {
            int kind = random.nextInt(100);
            if (style == 0 && kind < 80 || style == 1 && kind < 40) {
                playSomewhere();
            } else if (kind < 8) {
                loadText(kind < 3 ? faulty(boardText()) : boardText());
            } else if (kind < 30) {
                change();
            } else if (kind < 60) {
                ask();
            } else {
                askPlace(somePlace());
            }
        }
    }

    private void same(String call, Due.Call got, Due.Call want) {
        calls++;
        if (calls <= CALLS) {
            Object due = Due.answer(want);
            Due.gives(trail + "call " + calls + ": " + call, due, got);
        }
    }

    private int upTo(int most) {
        return random.nextInt(most + 1);
    }

    private int odd() {
        int[] values = {-1, -2, 0, 1, 2, 3, 4, 5, 12, 60, 64, 99, -99, 100, -100, 1 << 31, Integer.MAX_VALUE};
        return values[upTo(values.length - 1)];
    }

    private int oddly(int value) {
        return upTo(24) == 0 ? odd() : value;
    }

    private int somePlace() {
        return oddly(upTo(mine.count(0) * mine.count(1) - 1));
    }

    private int someColour() {
        return oddly(1 + upTo(1));
    }

    // ---- texts

    private String boardText() {
        int rings = 1 + upTo(4);
        int sectors = 3 + (upTo(1) == 0 ? upTo(9) : upTo(3));
        StringBuilder text = new StringBuilder("board ").append(rings).append(' ').append(sectors).append(';');
        if (upTo(1) == 0) {
            text.append("rule ").append(upTo(1)).append(';');
        }
        if (upTo(3) == 0) {
            text.append(" bonus 0").append(upTo(9)).append(" ; ");
        }
        if (upTo(1) == 0) {
            text.append("turn ").append(upTo(1) == 0 ? "black" : "white").append(';');
        }
        if (upTo(5) == 0) {
            text.append("rule 0").append(upTo(1)).append("  ;turn black;");
        }
        String row = upTo(2) == 0 ? "row " : " row  ";
        int filled = 20 + upTo(75);
        int black = 15 + upTo(70);
        boolean bands = upTo(2) == 0;
        char last = 'o';
        for (int ring = 0; ring < rings; ring++) {
            text.append(row);
            for (int sector = 0; sector < sectors; sector++) {
                if (!bands || upTo(2) == 0) {
                    last = upTo(99) >= filled ? 'o' : upTo(99) < black ? 'b' : 'w';
                }
                text.append(last);
            }
            text.append(';');
        }
        return text.length() > 300 ? text.substring(0, 300) : text.toString();
    }

    private String faulty(String text) {
        StringBuilder changed = new StringBuilder(text);
        for (int i = upTo(2); i >= 0; i--) {
            int at = upTo(changed.length());
            int end = Math.min(changed.length(), at + upTo(4));
            switch (upTo(3)) {
                case 0:
                    changed.delete(at, end);
                    break;
                case 1:
                    changed.insert(at, PIECES[upTo(PIECES.length - 1)]);
                    break;
                case 2:
                    changed.replace(at, end, PIECES[upTo(PIECES.length - 1)]);
                    break;
                default:
                    changed.setLength(at);
            }
        }
        return changed.length() > 300 ? changed.substring(0, 300) : changed.toString();
    }

    private void loadText(String text) {
        for (int at = 0; at < text.length(); at += 20) {
            int[] five = new int[5];
            for (int i = 0; i < 20; i++) {
                int letter = at + i < text.length() ? text.charAt(at + i) : ' ';
                five[i / 4] = five[i / 4] << 8 | letter;
            }
            same("append", () -> mine.append(five[0], five[1], five[2], five[3], five[4]),
                () -> plain.append(five[0], five[1], five[2], five[3], five[4]));
        }
        int length = oddly(text.length());
        same("load " + length + " of " + text, () -> mine.load(length), () -> plain.load(length));
        same("errorPosition behind " + text, mine::errorPosition, plain::errorPosition);
    }

    // ---- changes

    private void playSomewhere() {
        int place = somePlace();
        for (int i = 0; i < 10 && Due.answer(() -> mine.reason(place, mine.count(4))).equals(2); i++) {
            int other = somePlace();
            same("play " + other, () -> mine.play(other), () -> plain.play(other));
        }
        same("play " + place, () -> mine.play(place), () -> plain.play(place));
    }

    private void change() {
        int place = somePlace();
        int slot = oddly(upTo(1));
        switch (upTo(11)) {
            case 0:
                same("pass", mine::pass, plain::pass);
                break;
            case 1: {
                int colour = oddly(upTo(2));
                same("setStone " + place + " " + colour, () -> mine.setStone(place, colour), () -> plain.setStone(place, colour));
                break;
            }
            case 2: {
                int colour = someColour();
                same("setTurn " + colour, () -> mine.setTurn(colour), () -> plain.setTurn(colour));
                break;
            }
            case 3: {
                int rule = upTo(3) == 0 ? oddly(0) : oddly(1);
                same("setRule " + rule, () -> mine.setRule(rule), () -> plain.setRule(rule));
                break;
            }
            case 4: {
                int bonus = oddly(upTo(198) - 99);
                same("setBonus " + bonus, () -> mine.setBonus(bonus), () -> plain.setBonus(bonus));
                break;
            }
            case 5:
                for (int i = upTo(2) == 0 ? 9 : upTo(2); i >= 0; i--) {
                    same("undo", mine::undo, plain::undo);
                }
                break;
            case 6:
                same("save " + slot, () -> mine.save(slot), () -> plain.save(slot));
                break;
            case 7:
                same("restore " + slot, () -> mine.restore(slot), () -> plain.restore(slot));
                break;
            case 8:
                same("append", () -> mine.append(1, 2, 3, 4, 5), () -> plain.append(1, 2, 3, 4, 5));
                break;
            default:
                playSomewhere();
        }
    }

    // ---- questions

    private void ask() {
        int colour = someColour();
        int number = oddly(upTo(11));
        int small = oddly(upTo(5));
        switch (upTo(17)) {
            case 0: same("count " + number, () -> mine.count(number), () -> plain.count(number)); break;
            case 1: same("place", () -> mine.place(small, number), () -> plain.place(small, number)); break;
            case 2: same("chains " + colour + " " + small, () -> mine.chains(colour, small), () -> plain.chains(colour, small)); break;
            case 3: same("weakest " + colour, () -> mine.weakest(colour), () -> plain.weakest(colour)); break;
            case 4: same("moves " + colour, () -> mine.moves(colour), () -> plain.moves(colour)); break;
            case 5: same("greediest " + colour, () -> mine.greediest(colour), () -> plain.greediest(colour)); break;
            case 6: same("pools " + (small - 1), () -> mine.pools(small - 1), () -> plain.pools(small - 1)); break;
            case 7: same("alive " + colour, () -> mine.alive(colour), () -> plain.alive(colour)); break;
            case 8: same("area " + colour, () -> mine.area(colour), () -> plain.area(colour)); break;
            case 9: same("score", mine::score, plain::score); break;
            case 10: same("share " + colour, () -> mine.share(colour), () -> {
                plain.area(colour);
                return plain.share(colour);
            }); break;
            case 11: same("writeRing " + small, () -> mine.writeRing(small), () -> plain.writeRing(small)); break;
            case 12: same("writtenByte " + number, () -> mine.writtenByte(number), () -> plain.writtenByte(number)); break;
            case 13: same("differing " + small % 3, () -> mine.differing(small % 3), () -> plain.differing(small % 3)); break;
            case 14: same("errorPosition", mine::errorPosition, plain::errorPosition); break;
            case 15: same("count 9", () -> mine.count(9), () -> plain.count(9)); break;
            case 16: same("count 5", () -> mine.count(5), () -> plain.count(5)); break;
            default: same("count 6", () -> mine.count(6), () -> plain.count(6)); break;
        }
    }

    private void askPlace(int p) {
        int colour = someColour();
        int what = oddly(upTo(4));
        String at = " " + p + " " + what + " " + colour;
        switch (upTo(10)) {
            case 0: same("neighbour" + at, () -> mine.neighbour(p, what), () -> plain.neighbour(p, what)); break;
            case 1: same("stone" + at, () -> mine.stone(p), () -> plain.stone(p)); break;
            case 2: same("chain" + at, () -> mine.chain(p, what), () -> plain.chain(p, what)); break;
            case 3: same("freedom" + at, () -> mine.freedom(p, what), () -> plain.freedom(p, what)); break;
            case 4: same("reason" + at, () -> mine.reason(p, colour), () -> plain.reason(p, colour)); break;
            case 5: same("move" + at, () -> mine.move(p, colour, what), () -> plain.move(p, colour, what)); break;
            case 6: same("pool" + at, () -> mine.pool(p, what), () -> plain.pool(p, what)); break;
            case 7: same("isSharedEye" + at, () -> mine.isSharedEye(p), () -> plain.isSharedEye(p)); break;
            case 8: same("isStandoff" + at, () -> mine.isStandoff(p), () -> plain.isStandoff(p)); break;
            case 9: same("isAlive" + at, () -> mine.isAlive(p), () -> plain.isAlive(p)); break;
            default: same("caughtBy" + at, () -> mine.caughtBy(p), () -> plain.caughtBy(p)); break;
        }
    }
}
