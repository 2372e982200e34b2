/**
 * Every board of a few small sizes, with every question about it and every first move on it: the class and the plain
 * model must answer alike. Random boards seldom bring what only a few of all boards have.
 */
public final class EveryBoardTest {
    private static final int[][] SIZES = {{1, 3}, {1, 4}, {1, 5}, {1, 6}, {1, 7}, {2, 3}, {2, 4}};

    private final RingStones mine = new RingStones();
    private final PlainModel plain = new PlainModel();
    private final String text;

    private EveryBoardTest(String text) {
        this.text = text;
    }

    /** With arguments behind the first one: rings and sectors of other boards. */
    public static void main(String[] args) {
        if (args.length > 2) {
            everyBoard(Integer.parseInt(args[1]), Integer.parseInt(args[2]));
        } else {
            for (int[] size : SIZES) {
                everyBoard(size[0], size[1]);
            }
        }
        Due.end();
    }

    private static void everyBoard(int rings, int sectors) {
        int places = rings * sectors;
        int boards = 1;
        for (int i = 0; i < places; i++) {
            boards *= 3;
        }
        for (int board = 0; board < boards; board++) {
            StringBuilder letters = new StringBuilder();
            for (int rest = board, i = 0; i < places; rest /= 3, i++) {
                letters.append("obw".charAt(rest % 3));
            }
            new EveryBoardTest(Due.text(rings, sectors, letters.toString())).look(places);
        }
    }

    private void look(int places) {
        loadText();
        if (plain.errorPosition() != -1) {
            return;
        }
        for (int colour = 1; colour <= 2; colour++) {
            askColour(colour);
        }
        for (int owners = -1; owners <= 3; owners++) {
            int o = owners;
            same("pools " + o, () -> mine.pools(o), () -> plain.pools(o));
        }
        same("score", mine::score, plain::score);
        for (int place = 0; place < places; place++) {
            askPlace(place);
            if (mine.stone(place) == 0) {
                for (int colour = 1; colour <= 2; colour++) {
                    playOnce(place, colour);
                }
            } else {
                askStone(place);
            }
        }
    }

    private void loadText() {
        Due.append(mine, text);
        for (int at = 0; at < text.length(); at += 20) {
            int[] five = new int[5];
            for (int i = 0; i < 20; i++) {
                five[i / 4] = five[i / 4] << 8 | (at + i < text.length() ? text.charAt(at + i) : ' ');
            }
            plain.append(five[0], five[1], five[2], five[3], five[4]);
        }
        same("load", () -> mine.load(text.length()), () -> plain.load(text.length()));
        same("errorPosition", mine::errorPosition, plain::errorPosition);
    }

    private void askColour(int c) {
        for (int most = 0; most <= 4; most++) {
            int m = most;
            same("chains " + c + " " + m, () -> mine.chains(c, m), () -> plain.chains(c, m));
        }
        same("weakest " + c, () -> mine.weakest(c), () -> plain.weakest(c));
        same("moves " + c, () -> mine.moves(c), () -> plain.moves(c));
        same("greediest " + c, () -> mine.greediest(c), () -> plain.greediest(c));
        same("alive " + c, () -> mine.alive(c), () -> plain.alive(c));
        same("area " + c, () -> mine.area(c), () -> plain.area(c));
    }

    private void askPlace(int p) {
        same("stone " + p, () -> mine.stone(p), () -> plain.stone(p));
        same("isSharedEye " + p, () -> mine.isSharedEye(p), () -> plain.isSharedEye(p));
        same("isStandoff " + p, () -> mine.isStandoff(p), () -> plain.isStandoff(p));
        same("isAlive " + p, () -> mine.isAlive(p), () -> plain.isAlive(p));
        same("caughtBy " + p, () -> mine.caughtBy(p), () -> plain.caughtBy(p));
        for (int what = 0; what <= 4; what++) {
            int w = what;
            same("pool " + p + " " + w, () -> mine.pool(p, w), () -> plain.pool(p, w));
        }
    }

    private void askStone(int p) {
        for (int what = 0; what <= 4; what++) {
            int w = what;
            same("chain " + p + " " + w, () -> mine.chain(p, w), () -> plain.chain(p, w));
        }
        int freedoms = plain.chain(p, 2);
        for (int index = 0; index <= freedoms; index++) {
            int i = index;
            same("freedom " + p + " " + i, () -> mine.freedom(p, i), () -> plain.freedom(p, i));
        }
    }

    /** Looks at a move, makes it as the colour whose turn it is, and asks what lies behind it; then takes it back. */
    private void playOnce(int p, int c) {
        String move = " " + p + " " + c;
        for (int what = 0; what <= 2; what++) {
            int w = what;
            same("move" + move + " " + w, () -> mine.move(p, c, w), () -> plain.move(p, c, w));
        }
        same("reason" + move, () -> mine.reason(p, c), () -> plain.reason(p, c));
        mine.setTurn(c);
        plain.setTurn(c);
        boolean made = plain.reason(p, c) == 0;
        same("play" + move, () -> mine.play(p), () -> plain.play(p));
        for (int what = 2; what <= 9; what++) {
            int w = what;
            same("count " + w + " behind" + move, () -> mine.count(w), () -> plain.count(w));
        }
        if (made) {
            mine.undo();
            plain.undo();
        }
    }

    private void same(String call, Due.Call got, Due.Call want) {
        Due.gives(call + " of " + text, Due.answer(want), got);
    }
}
