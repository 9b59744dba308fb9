import java.util.ArrayList;
import java.util.Comparator;
import java.util.List;
import java.util.TreeSet;

/** The document once more, written another way: slow, with the whole library, to be compared with. */
final class Model {
    record Rule(int way, int at, int from, int to, List<Integer> pieces) { }

    record Cell(List<int[]> fields, int row, int column, int rows, int columns, int kind, List<Integer> words) { }

    record Missed(int cell, int way, int line) { }

    record Table(List<Integer> rules, List<List<Integer>> lines, int[][] cellOf, List<Cell> cells,
        List<Missed> missed, int heads) { }

    record Kept(List<int[]> pieces, List<int[]> words, int[] settings) { }

    private List<int[]> pieces = new ArrayList<>();
    private List<int[]> words = new ArrayList<>();
    private int[] settings = {1, 2, 1};
    private final Kept[] images = new Kept[2];

    private List<Rule> rules = new ArrayList<>();
    private List<Table> tables = new ArrayList<>();

    private void look() {
        rules = findRules();
        tables = findTables();
    }

    private static boolean[][] closure(boolean[][] near) {
        int n = near.length;
        for (int k = 0; k < n; k++) {
            near[k][k] = true;
        }
        for (int k = 0; k < n; k++) {
            for (int i = 0; i < n; i++) {
                for (int j = 0; j < n; j++) {
                    near[i][j] |= near[i][k] && near[k][j];
                }
            }
        }
        return near;
    }

    private static List<List<Integer>> groups(boolean[][] near) {
        boolean[][] all = closure(near);
        List<List<Integer>> groups = new ArrayList<>();
        boolean[] seen = new boolean[all.length];
        for (int i = 0; i < all.length; i++) {
            List<Integer> group = new ArrayList<>();
            for (int j = 0; j < all.length; j++) {
                if (all[i][j] && !seen[j]) {
                    seen[j] = true;
                    group.add(j);
                }
            }
            if (!group.isEmpty()) {
                groups.add(group);
            }
        }
        return groups;
    }

    private List<Rule> findRules() {
        int n = pieces.size();
        boolean[][] near = new boolean[n][n];
        for (int i = 0; i < n; i++) {
            for (int j = 0; j < n; j++) {
                int[] a = pieces.get(i);
                int[] b = pieces.get(j);
                boolean far = a[0] != b[0] || a[1] - b[1] > settings[0] || b[1] - a[1] > settings[0]
                    || a[2] > b[3] + settings[1] || b[2] > a[3] + settings[1];
                near[i][j] = !far;
            }
        }
        List<Rule> found = new ArrayList<>();
        for (List<Integer> group : groups(near)) {
            int longest = group.get(0);
            int from = 99;
            int to = 0;
            for (int p : group) {
                int[] piece = pieces.get(p);
                if (piece[3] - piece[2] > pieces.get(longest)[3] - pieces.get(longest)[2]) {
                    longest = p;
                }
                from = Math.min(from, piece[2]);
                to = Math.max(to, piece[3]);
            }
            found.add(new Rule(pieces.get(longest)[0], pieces.get(longest)[1], from, to, group));
        }
        found.sort(Comparator.comparingInt(Rule::way).thenComparingInt(Rule::at).thenComparingInt(Rule::from)
            .thenComparingInt(Rule::to).thenComparingInt(r -> r.pieces().get(0)));
        return found;
    }

    private boolean crossing(Rule a, Rule b) {
        int reach = settings[2];
        return a.way() + b.way() == 1
            && a.at() >= b.from() - reach && a.at() <= b.to() + reach
            && b.at() >= a.from() - reach && b.at() <= a.to() + reach;
    }

    private List<Table> findTables() {
        int n = rules.size();
        boolean[][] near = new boolean[n][n];
        for (int i = 0; i < n; i++) {
            for (int j = 0; j < n; j++) {
                near[i][j] = crossing(rules.get(i), rules.get(j));
            }
        }
        List<List<Integer>> ruleGroups = new ArrayList<>();
        List<List<List<Integer>>> lineGroups = new ArrayList<>();
        for (List<Integer> group : groups(near)) {
            List<List<Integer>> lines = new ArrayList<>();
            for (int way = 0; way < 2; way++) {
                TreeSet<Integer> places = new TreeSet<>();
                for (int r : group) {
                    if (rules.get(r).way() == way) {
                        places.add(rules.get(r).at());
                    }
                }
                lines.add(new ArrayList<>(places));
            }
            if (lines.get(0).size() > 1 && lines.get(1).size() > 1) {
                ruleGroups.add(group);
                lineGroups.add(lines);
            }
        }
        List<Table> found = new ArrayList<>();
        boolean[] taken = new boolean[words.size()];
        for (int t = 0; t < ruleGroups.size(); t++) {
            found.add(findTable(ruleGroups.get(t), lineGroups.get(t), taken));
        }
        return found;
    }

    private boolean isRuled(List<Integer> of, List<List<Integer>> lines, int way, int row, int column) {
        int place = lines.get(way).get(way == 0 ? row : column);
        int k = way == 0 ? column : row;
        int begin = lines.get(1 - way).get(k);
        int end = lines.get(1 - way).get(k + 1);
        for (int r : of) {
            Rule rule = rules.get(r);
            if (rule.way() == way && rule.at() == place
                && rule.from() - settings[2] <= begin && rule.to() + settings[2] >= end) {
                return true;
            }
        }
        return false;
    }

    private void flood(List<Integer> of, List<List<Integer>> lines, int[][] cellOf, int[] from, List<int[]> fields) {
        List<int[]> open = new ArrayList<>();
        int number = cellOf[from[0]][from[1]];
        open.add(from);
        while (!open.isEmpty()) {
            int[] f = open.remove(open.size() - 1);
            fields.add(f);
            int[][] next = {{f[0] - 1, f[1], 0, f[0], f[1]}, {f[0] + 1, f[1], 0, f[0] + 1, f[1]},
                {f[0], f[1] - 1, 1, f[0], f[1]}, {f[0], f[1] + 1, 1, f[0], f[1] + 1}};
            for (int[] g : next) {
                if (g[0] < 0 || g[1] < 0 || g[0] >= cellOf.length || g[1] >= cellOf[0].length) {
                    continue;
                }
                if (cellOf[g[0]][g[1]] < 0 && !isRuled(of, lines, g[2], g[3], g[4])) {
                    cellOf[g[0]][g[1]] = number;
                    open.add(new int[] {g[0], g[1]});
                }
            }
        }
    }

    private Table findTable(List<Integer> of, List<List<Integer>> lines, boolean[] taken) {
        int rows = lines.get(0).size() - 1;
        int columns = lines.get(1).size() - 1;
        int[][] cellOf = new int[rows][columns];
        for (int[] row : cellOf) {
            java.util.Arrays.fill(row, -1);
        }
        List<Cell> cells = new ArrayList<>();
        for (int row = 0; row < rows; row++) {
            for (int column = 0; column < columns; column++) {
                if (cellOf[row][column] < 0) {
                    cellOf[row][column] = cells.size();
                    List<int[]> fields = new ArrayList<>();
                    flood(of, lines, cellOf, new int[] {row, column}, fields);
                    cells.add(findCell(of, lines, fields, taken));
                }
            }
        }
        return new Table(of, lines, cellOf, cells, findMissed(lines, cells), findHeads(cellOf, cells));
    }

    private Cell findCell(List<Integer> of, List<List<Integer>> lines, List<int[]> fields, boolean[] taken) {
        int rows = lines.get(0).size() - 1;
        int columns = lines.get(1).size() - 1;
        int top = fields.stream().mapToInt(f -> f[0]).min().getAsInt();
        int bottom = fields.stream().mapToInt(f -> f[0]).max().getAsInt();
        int left = fields.stream().mapToInt(f -> f[1]).min().getAsInt();
        int right = fields.stream().mapToInt(f -> f[1]).max().getAsInt();
        boolean open = false;
        for (int[] f : fields) {
            open |= f[0] == 0 && !isRuled(of, lines, 0, 0, f[1]);
            open |= f[0] == rows - 1 && !isRuled(of, lines, 0, rows, f[1]);
            open |= f[1] == 0 && !isRuled(of, lines, 1, f[0], 0);
            open |= f[1] == columns - 1 && !isRuled(of, lines, 1, f[0], columns);
        }
        boolean broken = fields.size() < (bottom - top + 1) * (right - left + 1);
        List<Integer> read = new ArrayList<>();
        for (int w = 0; w < words.size(); w++) {
            double x = (words.get(w)[0] + words.get(w)[2]) / 2.0;
            double y = (words.get(w)[1] + words.get(w)[3]) / 2.0;
            for (int[] f : fields) {
                boolean within = lines.get(0).get(f[0]) < y && y < lines.get(0).get(f[0] + 1)
                    && lines.get(1).get(f[1]) < x && x < lines.get(1).get(f[1] + 1);
                if (within && !taken[w]) {
                    taken[w] = true;
                    read.add(w);
                }
            }
        }
        read.sort(Comparator.comparingDouble((Integer w) -> (words.get(w)[1] + words.get(w)[3]) / 2.0)
            .thenComparing(w -> words.get(w)[0]).thenComparing(w -> w));
        return new Cell(fields, top, left, bottom - top + 1, right - left + 1, open ? 2 : broken ? 1 : 0, read);
    }

    private List<Missed> findMissed(List<List<Integer>> lines, List<Cell> cells) {
        List<Missed> found = new ArrayList<>();
        for (int c = 0; c < cells.size(); c++) {
            Cell cell = cells.get(c);
            if (cell.kind() != 0) {
                continue;
            }
            for (int line = cell.column() + 1; line < cell.column() + cell.columns(); line++) {
                if (isClear(cell, 0, lines.get(1).get(line))) {
                    found.add(new Missed(c, 1, line));
                }
            }
            for (int line = cell.row() + 1; line < cell.row() + cell.rows(); line++) {
                if (isClear(cell, 1, lines.get(0).get(line))) {
                    found.add(new Missed(c, 0, line));
                }
            }
        }
        return found;
    }

    private boolean isClear(Cell cell, int low, int place) {
        boolean cut = cell.words().stream().anyMatch(w -> words.get(w)[low] < place && words.get(w)[low + 2] > place);
        boolean before = cell.words().stream().anyMatch(w -> words.get(w)[low + 2] <= place);
        boolean behind = cell.words().stream().anyMatch(w -> words.get(w)[low] >= place);
        return !cut && before && behind;
    }

    private static int findHeads(int[][] cellOf, List<Cell> cells) {
        for (int row = 0; row < cellOf.length; row++) {
            boolean plain = true;
            for (int cell : cellOf[row]) {
                plain &= cells.get(cell).columns() == 1;
            }
            if (plain) {
                return Math.min(row + 1, cellOf.length - 1);
            }
        }
        return cellOf.length - 1;
    }

    private static boolean in(int n, int below) {
        return n >= 0 && n < below;
    }

    int set(int what, int n) {
        int[] most = {3, 9, 5};
        if (!in(what, 3) || !in(n, most[what] + 1)) {
            return -2;
        }
        int was = settings[what];
        settings[what] = n;
        look();
        return was;
    }

    int draw(int way, int at, int from, int to) {
        if (!in(way, 2) || !in(at, 100) || !in(from, 100) || !in(to, 100) || to <= from) {
            return -2;
        }
        if (pieces.size() == 24) {
            return -4;
        }
        pieces.add(new int[] {way, at, from, to});
        look();
        return pieces.size();
    }

    int erase(int piece) {
        if (!in(piece, pieces.size())) {
            return -1;
        }
        pieces.remove(piece);
        look();
        return pieces.size();
    }

    int piece(int piece, int what) {
        if (!in(piece, pieces.size())) {
            return -1;
        }
        if (!in(what, 5)) {
            return -2;
        }
        if (what < 4) {
            return pieces.get(piece)[what];
        }
        for (int r = 0; r < rules.size(); r++) {
            if (rules.get(r).pieces().contains(piece)) {
                return r;
            }
        }
        return -99;
    }

    int write(int left, int top, int right, int bottom) {
        if (!in(left, 100) || !in(top, 100) || !in(right, 100) || !in(bottom, 100) || right <= left || bottom <= top) {
            return -2;
        }
        if (words.size() == 20) {
            return -4;
        }
        words.add(new int[] {left, top, right, bottom});
        look();
        return words.size();
    }

    int strike(int word) {
        if (!in(word, words.size())) {
            return -1;
        }
        words.remove(word);
        look();
        return words.size();
    }

    int word(int word, int what) {
        if (!in(word, words.size())) {
            return -1;
        }
        if (!in(what, 6)) {
            return -2;
        }
        if (what < 4) {
            return words.get(word)[what];
        }
        for (int t = 0; t < tables.size(); t++) {
            for (int c = 0; c < tables.get(t).cells().size(); c++) {
                if (tables.get(t).cells().get(c).words().contains(word)) {
                    return what == 4 ? t : c;
                }
            }
        }
        return -6;
    }

    int rule(int rule, int what) {
        if (!in(rule, rules.size())) {
            return -1;
        }
        if (!in(what, 8)) {
            return -2;
        }
        Rule r = rules.get(rule);
        int table = -6;
        for (int t = 0; t < tables.size(); t++) {
            if (tables.get(t).rules().contains(rule)) {
                table = t;
            }
        }
        int crosses = (int) rules.stream().filter(o -> crossing(r, o)).count();
        return new int[] {r.way(), r.at(), r.from(), r.to(), r.pieces().size(), r.pieces().get(0), crosses, table}[what];
    }

    int cross(int rule, int other) {
        if (!in(rule, rules.size()) || !in(other, rules.size())) {
            return -1;
        }
        return crossing(rules.get(rule), rules.get(other)) ? 1 : 0;
    }

    int table(int table, int what) {
        if (!in(table, tables.size())) {
            return -1;
        }
        if (!in(what, 8)) {
            return -2;
        }
        Table t = tables.get(table);
        int held = t.cells().stream().mapToInt(c -> c.words().size()).sum();
        int whole = (int) t.cells().stream().filter(c -> c.kind() == 0).count();
        return new int[] {t.cellOf().length, t.cellOf()[0].length, t.cells().size(), t.rules().size(), held,
            t.heads(), t.missed().size(), whole}[what];
    }

    int edge(int table, int way, int line) {
        if (!in(table, tables.size())) {
            return -1;
        }
        if (!in(way, 2)) {
            return -2;
        }
        List<Integer> lines = tables.get(table).lines().get(way);
        return in(line, lines.size()) ? lines.get(line) : -6;
    }

    int ruled(int table, int way, int row, int column) {
        if (!in(table, tables.size())) {
            return -1;
        }
        if (!in(way, 2)) {
            return -2;
        }
        Table t = tables.get(table);
        int rows = t.cellOf().length + (way == 0 ? 1 : 0);
        int columns = t.cellOf()[0].length + (way == 1 ? 1 : 0);
        if (!in(row, rows) || !in(column, columns)) {
            return -1;
        }
        return isRuled(t.rules(), t.lines(), way, row, column) ? 1 : 0;
    }

    int at(int table, int row, int column) {
        if (!in(table, tables.size())) {
            return -1;
        }
        int[][] cellOf = tables.get(table).cellOf();
        return in(row, cellOf.length) && in(column, cellOf[0].length) ? cellOf[row][column] : -1;
    }

    int cell(int table, int cell, int what) {
        if (!in(table, tables.size()) || !in(cell, tables.get(table).cells().size())) {
            return -1;
        }
        if (!in(what, 7)) {
            return -2;
        }
        Cell c = tables.get(table).cells().get(cell);
        return new int[] {c.row(), c.column(), c.rows(), c.columns(), c.fields().size(), c.kind(), c.words().size()}[what];
    }

    int read(int table, int cell, int k) {
        if (!in(table, tables.size()) || !in(cell, tables.get(table).cells().size())) {
            return -1;
        }
        List<Integer> read = tables.get(table).cells().get(cell).words();
        return in(k, read.size()) ? read.get(k) : -6;
    }

    int missed(int table, int k, int what) {
        if (!in(table, tables.size())) {
            return -1;
        }
        if (!in(what, 3)) {
            return -2;
        }
        List<Missed> missed = tables.get(table).missed();
        if (!in(k, missed.size())) {
            return -6;
        }
        Missed m = missed.get(k);
        return what == 0 ? m.cell() : what == 1 ? m.way() : m.line();
    }

    int mend(int table) {
        if (!in(table, tables.size())) {
            return -1;
        }
        Table t = tables.get(table);
        if (t.missed().isEmpty()) {
            return -5;
        }
        if (pieces.size() + t.missed().size() > 24) {
            return -4;
        }
        for (Missed m : t.missed()) {
            Cell c = t.cells().get(m.cell());
            int first = m.way() == 1 ? c.row() : c.column();
            int span = m.way() == 1 ? c.rows() : c.columns();
            List<Integer> other = t.lines().get(1 - m.way());
            pieces.add(new int[] {m.way(), t.lines().get(m.way()).get(m.line()), other.get(first), other.get(first + span)});
        }
        look();
        return pieces.size();
    }

    int heading(int table, int column, int k) {
        if (!in(table, tables.size()) || !in(column, tables.get(table).cellOf()[0].length)) {
            return -1;
        }
        List<Integer> cells = new ArrayList<>();
        for (int row = 0; row < tables.get(table).heads(); row++) {
            int cell = tables.get(table).cellOf()[row][column];
            if (!cells.contains(cell)) {
                cells.add(cell);
            }
        }
        return in(k, cells.size()) ? cells.get(k) : -6;
    }

    int image(int k) {
        if (!in(k, 2)) {
            return -2;
        }
        images[k] = new Kept(new ArrayList<>(pieces), new ArrayList<>(words), settings.clone());
        return 1;
    }

    int restore(int k) {
        if (!in(k, 2)) {
            return -2;
        }
        if (images[k] == null) {
            return -3;
        }
        pieces = new ArrayList<>(images[k].pieces());
        words = new ArrayList<>(images[k].words());
        settings = images[k].settings().clone();
        look();
        return 1;
    }

    int told(int what) {
        if (!in(what, 8)) {
            return -2;
        }
        int held = tables.stream().flatMap(t -> t.cells().stream()).mapToInt(c -> c.words().size()).sum();
        return new int[] {pieces.size(), words.size(), rules.size(), tables.size(), words.size() - held,
            settings[0], settings[1], settings[2]}[what];
    }
}
