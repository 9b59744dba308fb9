import java.util.Random;

/** Runs of chance calls, the same each time, on the class and on the model: all answers must be the same. */
public final class ModelTest {
    private static final int CALLS = 512;
    private static final Due DUE = new Due();
    private static final int[] SEEN = new int[21 * 8];

    private final Random random;
    private final int style;
    private final RuledTables x = new RuledTables();
    private final Model model = new Model();

    private ModelTest(long seed) {
        random = new Random(seed);
        style = (int) (seed % 5);
    }

    public static void main(String[] args) {
        int runs = args.length > 0 ? Integer.parseInt(args[0]) : 1500;
        for (int run = 0; run < runs && !DUE.isWrong(); run++) {
            new ModelTest(run).run("run " + run);
        }
        tellSeen();
        DUE.end();
    }

    /** Each call must have been answered in each way that it can be: otherwise chance tests nothing. */
    private static void tellSeen() {
        String[] refusals = {"2", "24", "1", "12", "24", "1", "126", "126", "1", "12", "126", "12", "1", "12",
            "16", "126", "145", "16", "2", "23", "2"};
        for (int call = 0; call < refusals.length; call++) {
            DUE.holds("call " + call + " was taken", SEEN[call * 8] > 0);
            for (char c : refusals[call].toCharArray()) {
                DUE.holds("call " + call + " answered -" + c, SEEN[call * 8 + c - '0'] > 0);
            }
        }
    }

    private void run(String name) {
        int build = 20 + random.nextInt(30);
        for (int i = 0; i < CALLS && !DUE.isWrong(); i++) {
            boolean changes = i < build || random.nextInt(12) == 0;
            compare(name + ", call " + i, changes ? random.nextInt(8) : 8 + random.nextInt(13));
        }
    }

    private int number(int most) {
        int chance = random.nextInt(60);
        if (chance == 0) {
            return Integer.MAX_VALUE - random.nextInt(2);
        }
        if (chance == 1) {
            return Integer.MIN_VALUE + random.nextInt(2);
        }
        return chance < 5 ? -1 - random.nextInt(2) : random.nextInt(most + 2);
    }

    private int place() {
        if (random.nextInt(80) == 0) {
            return number(99);
        }
        int step = style == 3 ? 9 : 20;
        int base = step * random.nextInt(90 / step + 1) + 4;
        int off = random.nextInt(3) == 0 ? random.nextInt(7) - 3 : 0;
        return style == 4 ? random.nextInt(100) : base + off;
    }

    private int[] newPiece() {
        int way = random.nextInt(40) == 0 ? number(1) : random.nextInt(2);
        int from = place();
        int to = place();
        if (style < 2 && random.nextInt(3) > 0) {
            from = random.nextInt(8);
            to = 90 + random.nextInt(10);
        } else if (style == 2 && random.nextInt(2) > 0) {
            to = from + 1 + random.nextInt(6);
        }
        boolean turn = from > to && random.nextInt(20) > 0;
        return new int[] {way, place(), turn ? to : from, turn ? from : to};
    }

    private int[] newWord() {
        int left = random.nextInt(30) == 0 ? number(99) : random.nextInt(98);
        int top = random.nextInt(30) == 0 ? number(99) : random.nextInt(98);
        int width = random.nextInt(20) == 0 ? 60 : 1 + random.nextInt(8);
        return new int[] {left, top, left + (random.nextInt(30) == 0 ? 0 : width), top + 1 + random.nextInt(8)};
    }

    /** Changes are 0 to 7, in no order; what is only asked comes behind. */
    private void compare(String name, int kind) {
        int a = number(5);
        int b = number(8);
        int c = number(8);
        int d = number(8);
        switch (kind) {
            case 0, 1, 2: {
                int[] p = newPiece();
                same(name, 1, x.draw(p[0], p[1], p[2], p[3]), model.draw(p[0], p[1], p[2], p[3]), p);
                break;
            }
            case 3, 4: {
                int[] w = newWord();
                same(name, 4, x.write(w[0], w[1], w[2], w[3]), model.write(w[0], w[1], w[2], w[3]), w);
                break;
            }
            case 5: same(name, 0, x.set(a, c), model.set(a, c), a, c); break;
            case 6: change(name, a % 2 == 0 ? 0 : number(2)); break;
            case 7: image(name, number(1)); break;
            case 8: same(name, 3, x.piece(d * 3, a), model.piece(d * 3, a), d * 3, a); break;
            case 9: same(name, 6, x.word(d * 2, a), model.word(d * 2, a), d * 2, a); break;
            case 10: same(name, 7, x.rule(b * 2, d), model.rule(b * 2, d), b * 2, d); break;
            case 11: same(name, 8, x.cross(b + c, d + a), model.cross(b + c, d + a), b + c, d + a); break;
            default: compareTables(name, kind, a % 3 == 0 ? number(5) : 0, b, c);
        }
    }

    private void change(String name, int table) {
        int n = number(23);
        switch (random.nextInt(3)) {
            case 0: same(name, 2, x.erase(n), model.erase(n), n); break;
            case 1: same(name, 5, x.strike(n), model.strike(n), n); break;
            default: same(name, 16, x.mend(table), model.mend(table), table);
        }
    }

    private void image(String name, int k) {
        if (random.nextInt(3) > 0) {
            same(name, 18, x.image(k), model.image(k), k);
        } else {
            same(name, 19, x.restore(k), model.restore(k), k);
        }
    }

    private void compareTables(String name, int kind, int t, int b, int c) {
        int way = random.nextInt(20) == 0 ? number(1) : random.nextInt(2);
        int what = number(7);
        switch (kind) {
            case 12: same(name, 9, x.table(t, what), model.table(t, what), t, what); break;
            case 13: same(name, 10, x.edge(t, way, b), model.edge(t, way, b), t, way, b); break;
            case 14: same(name, 11, x.ruled(t, way, b, c), model.ruled(t, way, b, c), t, way, b, c); break;
            case 15: same(name, 12, x.at(t, b, c), model.at(t, b, c), t, b, c); break;
            case 16: same(name, 13, x.cell(t, b + c, what), model.cell(t, b + c, what), t, b + c, what); break;
            case 17: same(name, 14, x.read(t, b, c / 3), model.read(t, b, c / 3), t, b, c / 3); break;
            case 18: same(name, 15, x.missed(t, b / 2, c / 3), model.missed(t, b / 2, c / 3), t, b / 2, c / 3); break;
            case 19: same(name, 17, x.heading(t, b, c / 2), model.heading(t, b, c / 2), t, b, c / 2); break;
            default: same(name, 20, x.told(what), model.told(what), what);
        }
    }

    private static void same(String name, int call, int got, int want, int... args) {
        String[] calls = {"set", "draw", "erase", "piece", "write", "strike", "word", "rule", "cross", "table", "edge",
            "ruled", "at", "cell", "read", "missed", "mend", "heading", "image", "restore", "told"};
        DUE.is(name + ": " + calls[call] + java.util.Arrays.toString(args), got, want);
        SEEN[call * 8 + (want < 0 ? -want : 0)]++;
    }
}
