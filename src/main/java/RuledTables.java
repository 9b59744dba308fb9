/**
 * Tables found on a page that holds pieces of lines, and words.
 * The names here follow the words of the document (DOC.md).
 */
public final class RuledTables {
    public static final int UNKNOWN = -1, OUTSIDE = -2, STATE = -3, FULL = -4, NO = -5, NONE = -6;

    private static final int PLACES = 100;
    private static final int MOST_PIECES = 24;
    private static final int MOST_WORDS = 20;
    private static final int IMAGES = 2;

    /** Two rules across and two down are the fewest that make a table. */
    private static final int LEAST_RULES = 4;
    private static final int MOST_TABLES = MOST_PIECES / LEAST_RULES;
    /** 24 rules, half of them of each way, have 11 rows and 11 columns between them. */
    private static final int MOST_FIELDS = (MOST_PIECES / 2 - 1) * (MOST_PIECES / 2 - 1);

    private static final int SLOP = 0, GAP = 1, REACH = 2;
    private static final int[] FIRST_SETTINGS = {1, 2, 1};
    private static final int[] MOST_SETTINGS = {3, 9, 5};

    private static final int WAYS = 2;
    private static final int ACROSS = 0, DOWN = 1;

    /** What the numbers of a piece are, and those of a word. */
    private static final int WAY = 0, AT = 1, FROM = 2, TO = 3;
    private static final int LEFT = 0, TOP = 1, RIGHT = 2, BOTTOM = 3;

    /** What the numbers of a cell are; a FIRST or a SPAN with a way added is that of its lines. */
    private static final int FIRST = 0, SPAN = 2, FIELDS = 4, KIND = 5, WORDS = 6;
    private static final int CELL_NUMBERS = 7;
    private static final int WHOLE = 0, BROKEN = 1, OPEN = 2;

    /** What the numbers of a missed line are. */
    private static final int MISSED_CELL = 0, MISSED_WAY = 1, MISSED_LINE = 2;
    private static final int MISSED_NUMBERS = 3;

    private final Page page;
    private final Page[] images;
    private final boolean[] kept;
    private final Finding finding;
    /** The page has changed since the finding was made. */
    private boolean stale;

    public RuledTables() {
        page = new Page();
        images = new Page[IMAGES];
        for (int k = 0; k < IMAGES; k++) {
            images[k] = new Page();
        }
        kept = new boolean[IMAGES];
        finding = new Finding();
        stale = true;
    }

    // ---- 1 the page

    public int set(int what, int n) {
        if (what < 0 || what >= MOST_SETTINGS.length || n < 0 || n > MOST_SETTINGS[what]) {
            return OUTSIDE;
        }
        int was = page.settings[what];
        page.settings[what] = n;
        stale = true;
        return was;
    }

    public int draw(int way, int at, int from, int to) {
        if (!isWay(way) || !isPlace(at) || !isStretch(from, to)) {
            return OUTSIDE;
        }
        if (page.pieces.isFull()) {
            return FULL;
        }
        page.pieces.add(way, at, from, to);
        stale = true;
        return page.pieces.count;
    }

    public int erase(int piece) {
        if (!page.pieces.has(piece)) {
            return UNKNOWN;
        }
        page.pieces.remove(piece);
        stale = true;
        return page.pieces.count;
    }

    public int piece(int piece, int what) {
        if (!page.pieces.has(piece)) {
            return UNKNOWN;
        }
        if (what < 0 || what > Rows.WIDTH) {
            return OUTSIDE;
        }
        return what < Rows.WIDTH ? page.pieces.number(piece, what) : found().rules.ofPiece[piece];
    }

    public int write(int left, int top, int right, int bottom) {
        if (!isStretch(left, right) || !isStretch(top, bottom)) {
            return OUTSIDE;
        }
        if (page.words.isFull()) {
            return FULL;
        }
        page.words.add(left, top, right, bottom);
        stale = true;
        return page.words.count;
    }

    public int strike(int word) {
        if (!page.words.has(word)) {
            return UNKNOWN;
        }
        page.words.remove(word);
        stale = true;
        return page.words.count;
    }

    public int word(int word, int what) {
        if (!page.words.has(word)) {
            return UNKNOWN;
        }
        if (what < 0 || what > Rows.WIDTH + 1) {
            return OUTSIDE;
        }
        if (what < Rows.WIDTH) {
            return page.words.number(word, what);
        }
        Placing placing = found().placing;
        return what == Rows.WIDTH ? placing.tables[word] : placing.cells[word];
    }

    // ---- 2 rules

    public int rule(int rule, int what) {
        Rules rules = found().rules;
        return rules.has(rule) ? rules.all[rule].tell(what) : UNKNOWN;
    }

    public int cross(int rule, int other) {
        Rules rules = found().rules;
        if (!rules.has(rule) || !rules.has(other)) {
            return UNKNOWN;
        }
        return rules.all[rule].crosses(rules.all[other], page.settings[REACH]) ? 1 : 0;
    }

    // ---- 3 tables

    public int table(int table, int what) {
        Finding found = found();
        return found.has(table) ? found.tables[table].tell(what) : UNKNOWN;
    }

    public int edge(int table, int way, int line) {
        Finding found = found();
        if (!found.has(table)) {
            return UNKNOWN;
        }
        if (!isWay(way)) {
            return OUTSIDE;
        }
        return found.tables[table].lines.placeOf(way, line);
    }

    public int ruled(int table, int way, int row, int column) {
        Finding found = found();
        if (!found.has(table)) {
            return UNKNOWN;
        }
        if (!isWay(way)) {
            return OUTSIDE;
        }
        Table asked = found.tables[table];
        if (asked.sideOf(way, row, column) < 0) {
            return UNKNOWN;
        }
        return asked.hasRuled(way, row, column) ? 1 : 0;
    }

    public int at(int table, int row, int column) {
        Finding found = found();
        if (!found.has(table)) {
            return UNKNOWN;
        }
        int cell = found.tables[table].cellOf(row, column);
        return cell < 0 ? UNKNOWN : cell;
    }

    public int cell(int table, int cell, int what) {
        Finding found = found();
        if (!found.has(table) || !found.tables[table].hasCell(cell)) {
            return UNKNOWN;
        }
        if (what < 0 || what >= CELL_NUMBERS) {
            return OUTSIDE;
        }
        return found.tables[table].cells[what][cell];
    }

    // ---- 4 words

    public int read(int table, int cell, int k) {
        Finding found = found();
        if (!found.has(table) || !found.tables[table].hasCell(cell)) {
            return UNKNOWN;
        }
        return found.placing.wordRead(table, cell, k);
    }

    public int missed(int table, int k, int what) {
        Finding found = found();
        if (!found.has(table)) {
            return UNKNOWN;
        }
        if (what < 0 || what >= MISSED_NUMBERS) {
            return OUTSIDE;
        }
        Table asked = found.tables[table];
        return k >= 0 && k < asked.missedCount ? asked.missedLines[what][k] : NONE;
    }

    public int mend(int table) {
        Finding found = found();
        if (!found.has(table)) {
            return UNKNOWN;
        }
        Table asked = found.tables[table];
        if (asked.missedCount == 0) {
            return NO;
        }
        if (page.pieces.count + asked.missedCount > MOST_PIECES) {
            return FULL;
        }
        for (int k = 0; k < asked.missedCount; k++) {
            asked.drawMissed(k, page.pieces);
        }
        stale = true;
        return page.pieces.count;
    }

    // ---- 5 headings

    public int heading(int table, int column, int k) {
        Finding found = found();
        if (!found.has(table) || column < 0 || column >= found.tables[table].columns) {
            return UNKNOWN;
        }
        return found.tables[table].headingOf(column, k);
    }

    public int image(int k) {
        if (k < 0 || k >= IMAGES) {
            return OUTSIDE;
        }
        images[k].take(page);
        kept[k] = true;
        return 1;
    }

    public int restore(int k) {
        if (k < 0 || k >= IMAGES) {
            return OUTSIDE;
        }
        if (!kept[k]) {
            return STATE;
        }
        page.take(images[k]);
        stale = true;
        return 1;
    }

    public int told(int what) {
        switch (what) {
            case 0: return page.pieces.count;
            case 1: return page.words.count;
            case 2: return found().rules.count;
            case 3: return found().tableCount;
            case 4: return found().placing.loose;
            case 5: return page.settings[SLOP];
            case 6: return page.settings[GAP];
            case 7: return page.settings[REACH];
            default: return OUTSIDE;
        }
    }

    /** What lies on the page as it is now: found anew only after a change. */
    private Finding found() {
        if (stale) {
            finding.find(page);
            stale = false;
        }
        return finding;
    }

    private static boolean isWay(int n) {
        return n == ACROSS || n == DOWN;
    }

    private static boolean isPlace(int n) {
        return n >= 0 && n < PLACES;
    }

    private static boolean isStretch(int from, int to) {
        return isPlace(from) && isPlace(to) && from < to;
    }

    /** Rows of four numbers, numbered from 0 on as they came. */
    private static final class Rows {
        static final int WIDTH = 4;

        final int[] numbers;
        final int most;
        int count;

        Rows(int room) {
            most = Math.max(0, room);
            numbers = new int[most * WIDTH];
        }

        boolean has(int row) {
            return row >= 0 && row < count;
        }

        boolean isFull() {
            return count >= most;
        }

        int number(int row, int what) {
            boolean isThere = row >= 0 && row < count && what >= 0 && what < WIDTH;
            return isThere ? numbers[row * WIDTH + what] : NONE;
        }

        void add(int a, int b, int c, int d) {
            if (isFull()) {
                return;
            }
            int start = count * WIDTH;
            numbers[start] = a;
            numbers[start + 1] = b;
            numbers[start + 2] = c;
            numbers[start + 3] = d;
            count++;
        }

        void remove(int row) {
            if (!has(row)) {
                return;
            }
            int end = (count - 1) * WIDTH;
            for (int i = row * WIDTH; i < end; i++) {
                numbers[i] = numbers[i + WIDTH];
            }
            count--;
        }

        void take(Rows other) {
            if (other.most != most) {
                return;
            }
            count = other.count;
            for (int i = 0; i < count * WIDTH; i++) {
                numbers[i] = other.numbers[i];
            }
        }
    }

    /** What callers put on the page, and nothing that follows from it: this is what an image keeps. */
    private static final class Page {
        final Rows pieces;
        final Rows words;
        final int[] settings;

        Page() {
            pieces = new Rows(MOST_PIECES);
            words = new Rows(MOST_WORDS);
            settings = FIRST_SETTINGS.clone();
        }

        void take(Page other) {
            pieces.take(other.pieces);
            words.take(other.words);
            for (int i = 0; i < FIRST_SETTINGS.length; i++) {
                settings[i] = other.settings[i];
            }
        }
    }

    /** Things that are one by way of others, too. A group is known by its first member. */
    private static final class Groups {
        final int[] leads;

        Groups(int room) {
            leads = new int[Math.max(0, room)];
        }

        void part(int count) {
            for (int i = 0; i < count && i < leads.length; i++) {
                leads[i] = i;
            }
        }

        /** A lead is never greater than what it leads, so the walk goes down and ends. */
        int firstOf(int member) {
            if (member < 0 || member >= leads.length) {
                return 0;
            }
            int first = member;
            for (int steps = 0; steps < leads.length && leads[first] < first; steps++) {
                first = leads[first];
            }
            return first;
        }

        void join(int one, int other) {
            int a = firstOf(one);
            int b = firstOf(other);
            if (a != b) {
                leads[Math.max(a, b)] = Math.min(a, b);
            }
        }
    }

    /** Pieces that are near one another. */
    private static final class Rule {
        int way;
        int at;
        int from;
        int to;
        int longest;
        int pieces;
        int first;
        int crossings;
        int table;

        void begin(Rows drawn, int piece) {
            way = drawn.number(piece, WAY);
            at = drawn.number(piece, AT);
            from = drawn.number(piece, FROM);
            to = drawn.number(piece, TO);
            longest = to - from;
            pieces = 1;
            first = piece;
            crossings = 0;
            table = NONE;
        }

        /** Pieces come by rising numbers, so the first of the longest ones keeps its place. */
        void takeIn(Rows drawn, int piece) {
            int begins = drawn.number(piece, FROM);
            int ends = drawn.number(piece, TO);
            if (ends - begins > longest) {
                longest = ends - begins;
                at = drawn.number(piece, AT);
            }
            from = Math.min(from, begins);
            to = Math.max(to, ends);
            pieces++;
        }

        boolean comesBefore(Rule other) {
            if (way != other.way) {
                return way < other.way;
            }
            if (at != other.at) {
                return at < other.at;
            }
            if (from != other.from) {
                return from < other.from;
            }
            if (to != other.to) {
                return to < other.to;
            }
            return first < other.first;
        }

        boolean covers(int begin, int end, int reach) {
            return from - reach <= begin && to + reach >= end;
        }

        boolean crosses(Rule other, int reach) {
            return way != other.way
                && covers(other.at, other.at, reach)
                && other.covers(at, at, reach);
        }

        int tell(int what) {
            switch (what) {
                case 0: return way;
                case 1: return at;
                case 2: return from;
                case 3: return to;
                case 4: return pieces;
                case 5: return first;
                case 6: return crossings;
                case 7: return table;
                default: return OUTSIDE;
            }
        }
    }

    /** All rules of a page, in order. */
    private static final class Rules {
        final Rule[] all;
        final int[] ofPiece;
        int count;

        Rules() {
            all = new Rule[MOST_PIECES];
            for (int i = 0; i < MOST_PIECES; i++) {
                all[i] = new Rule();
            }
            ofPiece = new int[MOST_PIECES];
        }

        boolean has(int rule) {
            return rule >= 0 && rule < count;
        }

        void find(Page page, Groups groups) {
            joinNear(page, groups);
            gather(page.pieces, groups);
            sort();
            tellPieces(page.pieces.count, groups);
        }

        private static void joinNear(Page page, Groups groups) {
            Rows pieces = page.pieces;
            groups.part(pieces.count);
            for (int i = 1; i < pieces.count; i++) {
                for (int j = 0; j < i; j++) {
                    if (areNear(pieces, i, j, page.settings)) {
                        groups.join(i, j);
                    }
                }
            }
        }

        private static boolean areNear(Rows pieces, int i, int j, int[] settings) {
            int apart = Math.abs(pieces.number(i, AT) - pieces.number(j, AT));
            int from = Math.max(pieces.number(i, FROM), pieces.number(j, FROM));
            int to = Math.min(pieces.number(i, TO), pieces.number(j, TO));
            return pieces.number(i, WAY) == pieces.number(j, WAY)
                && apart <= settings[SLOP]
                && from - to <= settings[GAP];
        }

        private void gather(Rows pieces, Groups groups) {
            count = 0;
            for (int piece = 0; piece < pieces.count; piece++) {
                int first = groups.firstOf(piece);
                if (first == piece) {
                    all[count].begin(pieces, piece);
                    ofPiece[piece] = count;
                    count++;
                } else {
                    ofPiece[piece] = ofPiece[first];
                    all[ofPiece[piece]].takeIn(pieces, piece);
                }
            }
        }

        private void sort() {
            for (int i = 1; i < count; i++) {
                Rule rule = all[i];
                int to = i;
                while (to > 0 && rule.comesBefore(all[to - 1])) {
                    all[to] = all[to - 1];
                    to--;
                }
                all[to] = rule;
            }
        }

        /** The first piece of a rule is told first, and tells the others, which are behind it. */
        private void tellPieces(int pieces, Groups groups) {
            for (int i = 0; i < count; i++) {
                ofPiece[all[i].first] = i;
            }
            for (int piece = 0; piece < pieces; piece++) {
                ofPiece[piece] = ofPiece[groups.firstOf(piece)];
            }
        }

        void joinCrossing(int reach, Groups groups) {
            groups.part(count);
            for (int i = 1; i < count; i++) {
                for (int j = 0; j < i; j++) {
                    if (all[i].crosses(all[j], reach)) {
                        groups.join(i, j);
                        all[i].crossings++;
                        all[j].crossings++;
                    }
                }
            }
        }

        /** Gives each rule the number of its table; answers how many tables there are. */
        int numberTables(Groups groups) {
            int tables = 0;
            for (int i = 0; i < count; i++) {
                boolean makesTable = tables < MOST_TABLES
                    && groups.firstOf(i) == i
                    && countPlaces(i, ACROSS, groups) > 1
                    && countPlaces(i, DOWN, groups) > 1;
                if (makesTable) {
                    giveTable(i, tables, groups);
                    tables++;
                }
            }
            return tables;
        }

        private int countPlaces(int first, int way, Groups groups) {
            int places = 0;
            int last = NONE;
            for (int i = first; i < count; i++) {
                boolean counts = all[i].way == way && all[i].at != last && groups.firstOf(i) == first;
                if (counts) {
                    places++;
                    last = all[i].at;
                }
            }
            return places;
        }

        private void giveTable(int first, int table, Groups groups) {
            for (int i = first; i < count; i++) {
                if (groups.firstOf(i) == first) {
                    all[i].table = table;
                }
            }
        }
    }

    /** The places at which the rules of a table lie, rising, of each way. */
    private static final class Lines {
        final int[][] places;
        final int[] counts;

        Lines(int room) {
            places = new int[WAYS][Math.max(0, room)];
            counts = new int[WAYS];
        }

        void clear() {
            counts[ACROSS] = 0;
            counts[DOWN] = 0;
        }

        /** Rules come by rising places, so only the last line can be the same. */
        void add(int way, int place) {
            int count = counts[way];
            if (count >= places[way].length) {
                return;
            }
            if (count == 0 || places[way][count - 1] != place) {
                places[way][count] = place;
                counts[way] = count + 1;
            }
        }

        int placeOf(int way, int line) {
            return line >= 0 && line < counts[way] ? places[way][line] : NONE;
        }

        int lineAt(int way, int place) {
            for (int line = 0; line < counts[way]; line++) {
                if (places[way][line] == place) {
                    return line;
                }
            }
            return NONE;
        }

        /** The line behind which a middle lies, before the next one; middles are told doubled, to be exact. */
        int lineBefore(int way, int doubled) {
            for (int line = 0; line + 1 < counts[way]; line++) {
                if (2 * places[way][line] < doubled && doubled < 2 * places[way][line + 1]) {
                    return line;
                }
            }
            return NONE;
        }
    }

    /** One table: its lines, which sides are ruled, its cells and what is missed in them. */
    private static final class Table {
        final Lines lines;
        int rules;
        int rows;
        int columns;
        /** Those above fields first, then those at the left of fields. */
        final boolean[] sides;
        final int[] fieldCells;
        final int[][] cells;
        int cellCount;
        final int[][] missedLines;
        int missedCount;
        int words;
        int heads;

        /** With so many rules at most, fields and sides are most where half of the rules are of each way. */
        Table(int mostRules) {
            int half = Math.max(2, mostRules / 2);
            int mostFields = (half - 1) * (half - 1);
            lines = new Lines(2 * half - 2);
            sides = new boolean[2 * half * (half - 1)];
            fieldCells = new int[mostFields];
            cells = new int[CELL_NUMBERS][mostFields];
            missedLines = new int[MISSED_NUMBERS][mostFields];
        }

        void find(Rules ruling, int number, int reach, Groups groups) {
            takeLines(ruling, number);
            markSides(ruling, number, reach);
            joinFields(groups);
            numberCells(groups);
            markBroken();
            markOpen();
            heads = countHeads();
            words = 0;
            missedCount = 0;
        }

        private void takeLines(Rules ruling, int number) {
            lines.clear();
            rules = 0;
            for (int i = 0; i < ruling.count; i++) {
                if (ruling.all[i].table == number) {
                    lines.add(ruling.all[i].way, ruling.all[i].at);
                    rules++;
                }
            }
            rows = lines.counts[ACROSS] - 1;
            columns = lines.counts[DOWN] - 1;
            if (!hasRoom()) {
                rows = 0;
                columns = 0;
            }
        }

        /** There is room for every table of a page; yet no field or side is counted before it is looked at. */
        private boolean hasRoom() {
            return rows > 0 && columns > 0
                && rows * columns <= fieldCells.length
                && (rows + 1) * columns + rows * (columns + 1) <= sides.length;
        }

        private void markSides(Rules ruling, int number, int reach) {
            for (int i = 0; i < sides.length; i++) {
                sides[i] = false;
            }
            for (int i = 0; i < ruling.count; i++) {
                if (ruling.all[i].table == number) {
                    markSidesOf(ruling.all[i], reach);
                }
            }
        }

        private void markSidesOf(Rule rule, int reach) {
            int other = 1 - rule.way;
            int line = lines.lineAt(rule.way, rule.at);
            for (int k = 0; k + 1 < lines.counts[other]; k++) {
                int side = rule.way == ACROSS ? sideOf(ACROSS, line, k) : sideOf(DOWN, k, line);
                if (side >= 0 && rule.covers(lines.placeOf(other, k), lines.placeOf(other, k + 1), reach)) {
                    sides[side] = true;
                }
            }
        }

        /** Where a side is told among the sides; NONE if there is no such side. */
        int sideOf(int way, int row, int column) {
            int lastRow = way == ACROSS ? rows : rows - 1;
            int lastColumn = way == DOWN ? columns : columns - 1;
            if (row < 0 || row > lastRow || column < 0 || column > lastColumn) {
                return NONE;
            }
            int before = way == ACROSS ? 0 : (rows + 1) * columns;
            return before + row * (lastColumn + 1) + column;
        }

        boolean hasRuled(int way, int row, int column) {
            int side = sideOf(way, row, column);
            return side >= 0 && sides[side];
        }

        private void joinFields(Groups groups) {
            groups.part(rows * columns);
            for (int row = 0; row < rows; row++) {
                for (int column = 0; column < columns; column++) {
                    int field = row * columns + column;
                    if (column > 0 && !hasRuled(DOWN, row, column)) {
                        groups.join(field, field - 1);
                    }
                    if (row > 0 && !hasRuled(ACROSS, row, column)) {
                        groups.join(field, field - columns);
                    }
                }
            }
        }

        private void numberCells(Groups groups) {
            cellCount = 0;
            for (int row = 0; row < rows; row++) {
                for (int column = 0; column < columns; column++) {
                    int field = row * columns + column;
                    int first = groups.firstOf(field);
                    if (first == field) {
                        beginCell(row, column);
                    } else {
                        fieldCells[field] = fieldCells[first];
                        widenCell(fieldCells[field], row, column);
                    }
                }
            }
        }

        private void beginCell(int row, int column) {
            fieldCells[row * columns + column] = cellCount;
            cells[FIRST + ACROSS][cellCount] = row;
            cells[FIRST + DOWN][cellCount] = column;
            cells[SPAN + ACROSS][cellCount] = 1;
            cells[SPAN + DOWN][cellCount] = 1;
            cells[FIELDS][cellCount] = 1;
            cells[KIND][cellCount] = WHOLE;
            cells[WORDS][cellCount] = 0;
            cellCount++;
        }

        /** Fields come by rows, so a cell can widen to the left, to the right and down, but not up. */
        private void widenCell(int cell, int row, int column) {
            int[] firstColumns = cells[FIRST + DOWN];
            int[] spans = cells[SPAN + DOWN];
            if (column < firstColumns[cell]) {
                spans[cell] += firstColumns[cell] - column;
                firstColumns[cell] = column;
            }
            spans[cell] = Math.max(spans[cell], column - firstColumns[cell] + 1);
            cells[SPAN + ACROSS][cell] = row - cells[FIRST + ACROSS][cell] + 1;
            cells[FIELDS][cell]++;
        }

        private void markBroken() {
            for (int cell = 0; cell < cellCount; cell++) {
                if (cells[FIELDS][cell] < cells[SPAN + ACROSS][cell] * cells[SPAN + DOWN][cell]) {
                    cells[KIND][cell] = BROKEN;
                }
            }
        }

        private void markOpen() {
            for (int column = 0; column < columns; column++) {
                openUnless(hasRuled(ACROSS, 0, column), cellOf(0, column));
                openUnless(hasRuled(ACROSS, rows, column), cellOf(rows - 1, column));
            }
            for (int row = 0; row < rows; row++) {
                openUnless(hasRuled(DOWN, row, 0), cellOf(row, 0));
                openUnless(hasRuled(DOWN, row, columns), cellOf(row, columns - 1));
            }
        }

        private void openUnless(boolean isRuled, int cell) {
            if (!isRuled && hasCell(cell)) {
                cells[KIND][cell] = OPEN;
            }
        }

        boolean hasCell(int cell) {
            return cell >= 0 && cell < cellCount;
        }

        /** The cell of a field; NONE if there is no such field. */
        int cellOf(int row, int column) {
            boolean isField = row >= 0 && row < rows && column >= 0 && column < columns;
            return isField ? fieldCells[row * columns + column] : NONE;
        }

        /** The last row is never one of the heads, so it need not be looked at. */
        private int countHeads() {
            for (int row = 0; row + 1 < rows; row++) {
                if (isOneColumnWide(row)) {
                    return row + 1;
                }
            }
            return rows - 1;
        }

        private boolean isOneColumnWide(int row) {
            for (int column = 0; column < columns; column++) {
                if (cells[SPAN + DOWN][fieldCells[row * columns + column]] > 1) {
                    return false;
                }
            }
            return true;
        }

        int headingOf(int column, int k) {
            int before = 0;
            for (int row = 0; row < heads; row++) {
                if (isFirstInColumn(row, column)) {
                    if (before == k) {
                        return cellOf(row, column);
                    }
                    before++;
                }
            }
            return NONE;
        }

        /** A broken cell can leave a column and come back to it further down. */
        private boolean isFirstInColumn(int row, int column) {
            for (int above = 0; above < row; above++) {
                if (cellOf(above, column) == cellOf(row, column)) {
                    return false;
                }
            }
            return true;
        }

        void findMissed(Rows written, Placing placing, int number) {
            for (int cell = 0; cell < cellCount; cell++) {
                if (cells[KIND][cell] == WHOLE) {
                    findMissedIn(cell, DOWN, written, placing, number);
                    findMissedIn(cell, ACROSS, written, placing, number);
                }
            }
        }

        private void findMissedIn(int cell, int way, Rows written, Placing placing, int number) {
            int first = cells[FIRST + way][cell];
            int end = first + cells[SPAN + way][cell];
            for (int line = first + 1; line < end; line++) {
                if (placing.keepClear(written, number, cell, way, lines.placeOf(way, line))) {
                    addMissed(cell, way, line);
                }
            }
        }

        private void addMissed(int cell, int way, int line) {
            if (missedCount < missedLines[MISSED_CELL].length) {
                missedLines[MISSED_CELL][missedCount] = cell;
                missedLines[MISSED_WAY][missedCount] = way;
                missedLines[MISSED_LINE][missedCount] = line;
                missedCount++;
            }
        }

        /** The piece that mends a missed line goes from edge to edge of the cell. */
        void drawMissed(int k, Rows pieces) {
            int cell = missedLines[MISSED_CELL][k];
            int way = missedLines[MISSED_WAY][k];
            int place = lines.placeOf(way, missedLines[MISSED_LINE][k]);
            int other = 1 - way;
            int first = cells[FIRST + other][cell];
            int end = first + cells[SPAN + other][cell];
            pieces.add(way, place, lines.placeOf(other, first), lines.placeOf(other, end));
        }

        private int countWhole() {
            int whole = 0;
            for (int cell = 0; cell < cellCount; cell++) {
                if (cells[KIND][cell] == WHOLE) {
                    whole++;
                }
            }
            return whole;
        }

        int tell(int what) {
            switch (what) {
                case 0: return rows;
                case 1: return columns;
                case 2: return cellCount;
                case 3: return rules;
                case 4: return words;
                case 5: return heads;
                case 6: return missedCount;
                case 7: return countWhole();
                default: return OUTSIDE;
            }
        }
    }

    /** In which table and cell each word is, and in which order words are read. */
    private static final class Placing {
        final int[] tables;
        final int[] cells;
        final int[] order;
        int count;
        int loose;

        Placing() {
            tables = new int[MOST_WORDS];
            cells = new int[MOST_WORDS];
            order = new int[MOST_WORDS];
        }

        void find(Rows written, Table[] among, int tableCount) {
            count = written.count;
            loose = 0;
            for (int word = 0; word < count; word++) {
                place(word, written, among, tableCount);
                putInOrder(word, written);
            }
        }

        private void place(int word, Rows written, Table[] among, int tableCount) {
            int across = written.number(word, LEFT) + written.number(word, RIGHT);
            int down = written.number(word, TOP) + written.number(word, BOTTOM);
            for (int number = 0; number < tableCount; number++) {
                Table table = among[number];
                int row = table.lines.lineBefore(ACROSS, down);
                int column = table.lines.lineBefore(DOWN, across);
                int cell = table.cellOf(row, column);
                if (table.hasCell(cell)) {
                    tables[word] = number;
                    cells[word] = cell;
                    table.cells[WORDS][cell]++;
                    table.words++;
                    return;
                }
            }
            tables[word] = NONE;
            cells[word] = NONE;
            loose++;
        }

        /** Words come by rising numbers, so those that are read alike stay in the order of their numbers. */
        private void putInOrder(int word, Rows written) {
            int to = word;
            while (to > 0 && isReadBefore(word, order[to - 1], written)) {
                order[to] = order[to - 1];
                to--;
            }
            order[to] = word;
        }

        private static boolean isReadBefore(int word, int other, Rows written) {
            int middle = written.number(word, TOP) + written.number(word, BOTTOM);
            int otherMiddle = written.number(other, TOP) + written.number(other, BOTTOM);
            if (middle != otherMiddle) {
                return middle < otherMiddle;
            }
            return written.number(word, LEFT) < written.number(other, LEFT);
        }

        private boolean isIn(int word, int table, int cell) {
            return tables[word] == table && cells[word] == cell;
        }

        int wordRead(int table, int cell, int k) {
            int before = 0;
            for (int i = 0; i < count; i++) {
                if (isIn(order[i], table, cell)) {
                    if (before == k) {
                        return order[i];
                    }
                    before++;
                }
            }
            return NONE;
        }

        /** Whether the words of a cell keep clear of a place of a way, with one on each side at least. */
        boolean keepClear(Rows written, int table, int cell, int way, int place) {
            boolean isBefore = false;
            boolean isBehind = false;
            for (int word = 0; word < count; word++) {
                if (isIn(word, table, cell)) {
                    boolean ends = written.number(word, way == DOWN ? RIGHT : BOTTOM) <= place;
                    boolean begins = written.number(word, way == DOWN ? LEFT : TOP) >= place;
                    if (!ends && !begins) {
                        return false;
                    }
                    isBefore = isBefore || ends;
                    isBehind = isBehind || begins;
                }
            }
            return isBefore && isBehind;
        }
    }

    /** All that follows from a page. */
    private static final class Finding {
        final Groups groups;
        final Rules rules;
        final Table[] tables;
        int tableCount;
        final Placing placing;

        /** Tables before one have four rules each at least: so many fewer are left for it. */
        Finding() {
            groups = new Groups(Math.max(MOST_PIECES, MOST_FIELDS));
            rules = new Rules();
            tables = new Table[MOST_TABLES];
            for (int i = 0; i < MOST_TABLES; i++) {
                tables[i] = new Table(MOST_PIECES - i * LEAST_RULES);
            }
            placing = new Placing();
        }

        boolean has(int table) {
            return table >= 0 && table < tableCount;
        }

        void find(Page page) {
            int reach = page.settings[REACH];
            rules.find(page, groups);
            rules.joinCrossing(reach, groups);
            tableCount = rules.numberTables(groups);
            for (int number = 0; number < tableCount; number++) {
                tables[number].find(rules, number, reach, groups);
            }
            placing.find(page.words, tables, tableCount);
            for (int number = 0; number < tableCount; number++) {
                tables[number].findMissed(page.words, placing, number);
            }
        }
    }
}
