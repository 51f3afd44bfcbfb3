/** A rail line in whole offsets; the document tells, promise by promise, what each call answers. */
public final class RailOffsets {
    public static final int NONE = -1, BAD = -2, STATE = -3, FULL = -4;
    public static final long NO = Long.MIN_VALUE;

    private static final int MISSING = -11, OUTSIDE = -12, OTHER = -13, BELOW = -14, REFUSED = -1000;

    private static final int STRAIGHT = 0, CIRCLE = 1, EASE = 2, REVERSE = 3, SHARP = 4, FLAT = 5;
    private static final int[] PARENTS = {NONE, STRAIGHT, STRAIGHT, CIRCLE, EASE, CIRCLE};

    private static final int KIND = 0, LENGTH = 1, BEND = 2, CANT = 3, FIELDS = 4;
    private static final int[] FIELD_LEAST = {0, 1, -99, 0};
    private static final int[] FIELD_MOST = {5, 20, 99, 160};

    private static final int SCALE = 0, LACK = 1, EXCESS = 2, RAMP = 3, JUMP = 4, SPEED = 5, END = 6, LEAN = 7;
    private static final int[] RULE_FIRST = {1, 75, 75, 20, 5, 60, 0, 0};
    private static final int[] RULE_LEAST = {1, 0, 0, 0, 0, 0, -1000000, -10000};
    private static final int[] RULE_MOST = {1000000, 160, 160, 160, 99, 200, 1000000, 10000};

    private static final int[] CAUSES_BY_ROOT = {0, 1, 2, 2, 2, 3};

    private static final int MOST_PIECES = 10, MOST_STATIONS = 200, MOST_BEND = 99, MOST_CANT = 160;
    private static final int PAIR_BEND = 30, PAIR_BENDS = 61;
    private static final int MOST_SPEED = 200, SPEED_STEP = 5;
    private static final int SHEETS = 4, SHORTS = 0, INTS = 1, MOST_ITEMS = 40, MOST_TOLD = 8;
    private static final int MOST_ERROR = 9, MOST_SEEDS = 20, MOST_VERSINE = 999;
    private static final int MOST_BYTES = 60, MOST_CLAUSES = 12, DIGITS = 3;
    private static final int WORD = 0, NUMBER = 1, SIGN = 2, ENDED = 3, WRONG = 4;
    private static final int[] NUMBERS_OF_WORD = {4, 2, 2, 1, 0};

    private final Pieces pieces, keptPieces;
    private final int[] rules, keptRules;
    private final Line line;
    private final OldLine old;
    private final Sheet[] sheets;
    private final Tape tape;
    private boolean kept;

    public RailOffsets() {
        pieces = new Pieces();
        keptPieces = new Pieces();
        rules = RULE_FIRST.clone();
        keptRules = RULE_FIRST.clone();
        line = new Line(pieces);
        old = new OldLine(line);
        sheets = new Sheet[SHEETS];
        for (int i = 0; i < sheets.length; i++) {
            sheets[i] = new Sheet();
        }
        tape = new Tape();
        kept = false;
    }

    // ---- pieces

    public int piece(int kind, int length, int bend, int cant) {
        if (!fits(KIND, kind) || !fits(LENGTH, length) || !fits(BEND, bend) || !fits(CANT, cant)) {
            return BAD;
        }
        if (pieces.size >= MOST_PIECES) {
            return FULL;
        }
        int number = pieces.size;
        pieces.size = number + 1;
        pieces.write(number, KIND, kind);
        pieces.write(number, LENGTH, length);
        pieces.write(number, BEND, bend);
        pieces.write(number, CANT, cant);
        line.lay();
        return number;
    }

    public int drop() {
        if (pieces.size < 1) {
            return STATE;
        }
        pieces.size = pieces.size - 1;
        line.lay();
        return pieces.size;
    }

    public int set(int piece, int what, int v) {
        if (!pieces.has(piece) || !within(what, 0, FIELDS - 1)) {
            return REFUSED;
        }
        // The call numbers LENGTH, BEND, CANT from 0 and puts KIND last.
        int field = what == FIELDS - 1 ? KIND : what + 1;
        if (!fits(field, v)) {
            return REFUSED;
        }
        int was = pieces.read(piece, field);
        pieces.write(piece, field, v);
        line.lay();
        return was;
    }

    public int of(int piece, int what) {
        if (!pieces.has(piece) || !within(what, 0, 6)) {
            return REFUSED;
        }
        switch (what) {
            case 4:
                return made(pieces.read(piece, KIND), pieces.read(piece, LENGTH));
            case 5:
                return line.firstOf(piece);
            case 6:
                return line.lastOf(piece);
            default:
                return pieces.read(piece, what);
        }
    }

    public int taken(int piece, int k) {
        if (!pieces.has(piece) || !fits(KIND, k)) {
            return BAD;
        }
        return isUnder(pieces.read(piece, KIND), k) ? pieces.read(piece, LENGTH) : OTHER;
    }

    public long rule(int rule, int v) {
        if (!within(rule, 0, rules.length - 1)) {
            return NO;
        }
        if (!within(v, cell(RULE_LEAST, rule), cell(RULE_MOST, rule))) {
            return NO;
        }
        int was = cell(rules, rule);
        mark(rules, rule, v);
        return was;
    }

    // ---- stations

    public long at(int station, int what) {
        if (!within(station, 0, line.stations)) {
            return NO;
        }
        switch (what) {
            case 0:
                return cell(line.versines, station);
            case 1:
                return cell(line.heights, station);
            case 2:
                return cell(line.turns, station);
            case 3:
                return cell(line.offsets, station);
            case 4:
                return station == 0 ? NO : cell(line.owners, station);
            default:
                return NO;
        }
    }

    public long scaled(int station) {
        if (!within(station, 0, line.stations)) {
            return NO;
        }
        long product = (long) cell(line.offsets, station) * cell(rules, SCALE);
        return product == (int) product ? product : NO;
    }

    public int join(int i, int what) {
        if (!within(i, 0, pieces.size - 2)) {
            return BAD;
        }
        switch (what) {
            case 0:
                return apartAhead(line.versines, i + 1);
            case 1:
                return apartAhead(line.heights, i + 1);
            case 2:
                return jumps(i) ? 1 : 0;
            default:
                return BAD;
        }
    }

    public int joins() {
        int bits = 0;
        for (int i = 0; i < pieces.size - 1; i++) {
            if (jumps(i)) {
                bits |= 1 << i;
            }
        }
        return bits;
    }

    /** How far a row's values lie apart where a piece begins. */
    private int apartAhead(int[] row, int piece) {
        int first = line.firstOf(piece);
        return Math.abs(cell(row, first) - cell(row, first - 1));
    }

    private boolean jumps(int i) {
        return apartAhead(line.versines, i + 1) > cell(rules, JUMP)
            || apartAhead(line.heights, i + 1) > cell(rules, RAMP);
    }

    // ---- cants, speeds

    public int need(int station, int what) {
        if (!within(station, 1, line.stations)) {
            return BAD;
        }
        int speed = cell(rules, SPEED);
        switch (what) {
            case 0:
                return needBy(station, speed);
            case 1:
                return lacks(station, speed) ? 1 : 0;
            case 2:
                return tooHigh(station, speed) ? 1 : 0;
            case 3:
                return steep(station) ? 1 : 0;
            default:
                return BAD;
        }
    }

    public int fault(int what) {
        int station = firstFault();
        int why = station == NONE ? 0 : whyAt(station);
        int root = station == NONE ? 0 : rootOf(station, why);
        switch (what) {
            case 0:
                return station;
            case 1:
                return why;
            case 2:
                return cell(CAUSES_BY_ROOT, root);
            case 3:
                return root;
            default:
                return BAD;
        }
    }

    public int may(int station) {
        if (!within(station, 1, line.stations)) {
            return BAD;
        }
        for (int speed = MOST_SPEED; speed >= 0; speed -= SPEED_STEP) {
            if (runs(station, speed)) {
                return speed;
            }
        }
        return NONE;
    }

    public int limit() {
        for (int speed = MOST_SPEED; speed >= 0; speed -= SPEED_STEP) {
            if (runsAll(speed)) {
                return speed;
            }
        }
        return NONE;
    }

    public int least(int piece) {
        if (!pieces.has(piece)) {
            return BAD;
        }
        int was = pieces.read(piece, CANT);
        int found = NONE;
        for (int cant = 0; cant <= MOST_CANT && found == NONE; cant++) {
            pieces.write(piece, CANT, cant);
            line.fill(piece);
            if (!lacksWithin(piece)) {
                found = cant;
            }
        }
        pieces.write(piece, CANT, was);
        line.fill(piece);
        return found;
    }

    private int needBy(int station, int speed) {
        return speed * speed * Math.abs(cell(line.versines, station)) / 1000;
    }

    private boolean lacks(int station, int speed) {
        return needBy(station, speed) - cell(line.heights, station) > cell(rules, LACK);
    }

    private boolean tooHigh(int station, int speed) {
        return cell(line.heights, station) - needBy(station, speed) > cell(rules, EXCESS);
    }

    private boolean steep(int station) {
        return Math.abs(cell(line.heights, station) - cell(line.heights, station - 1)) > cell(rules, RAMP);
    }

    private boolean runs(int station, int speed) {
        return !lacks(station, speed) && !tooHigh(station, speed);
    }

    private boolean runsAll(int speed) {
        for (int station = 1; station <= line.stations; station++) {
            if (!runs(station, speed)) {
                return false;
            }
        }
        return true;
    }

    private boolean lacksWithin(int piece) {
        int speed = cell(rules, SPEED);
        int last = line.lastOf(piece);
        for (int station = line.firstOf(piece); station <= last; station++) {
            if (lacks(station, speed)) {
                return true;
            }
        }
        return false;
    }

    private int firstFault() {
        for (int station = 1; station <= line.stations; station++) {
            if (whyAt(station) != 0) {
                return station;
            }
        }
        return NONE;
    }

    private int whyAt(int station) {
        int speed = cell(rules, SPEED);
        if (lacks(station, speed)) {
            return 1;
        }
        if (tooHigh(station, speed)) {
            return 2;
        }
        return steep(station) ? 3 : 0;
    }

    /** The last cause of a fault; how many there are follows from it, as each cause hangs on one other. */
    private int rootOf(int station, int why) {
        int piece = cell(line.owners, station);
        if (why == 1) {
            return Math.abs(pieces.read(piece, BEND)) > 50 ? 2 : 1;
        }
        if (why == 2) {
            return 3;
        }
        if (piece < 1 || station != line.firstOf(piece)) {
            return 1;
        }
        return apartAhead(line.versines, piece) > cell(rules, JUMP) ? 5 : 4;
    }

    // ---- ends that meet

    public long miss(int what) {
        if (what == 0) {
            return (long) cell(line.offsets, line.stations) - cell(rules, END);
        }
        if (what == 1) {
            return (long) cell(line.turns, line.stations) - cell(rules, LEAN);
        }
        return NO;
    }

    public int meets(int piece) {
        if (!pieces.has(piece)) {
            return BAD;
        }
        int was = pieces.read(piece, BEND);
        int turn = cell(rules, LEAN) - line.turnBut(piece);
        int offset = cell(rules, END) - line.offsetBut(piece);
        int found = NONE;
        for (int size = 0; size <= MOST_BEND && found == NONE; size++) {
            if (meetsBy(piece, size, turn, offset)) {
                found = 1000 + size;
            } else if (meetsBy(piece, -size, turn, offset)) {
                found = 1000 - size;
            }
        }
        pieces.write(piece, BEND, was);
        return found;
    }

    public int both(int i, int j) {
        if (!pieces.has(i) || !pieces.has(j) || i == j) {
            return BAD;
        }
        int wasI = pieces.read(i, BEND);
        int wasJ = pieces.read(j, BEND);
        int found = NONE;
        for (int bend = -PAIR_BEND; bend <= PAIR_BEND && found == NONE; bend++) {
            pieces.write(i, BEND, bend);
            int second = firstToMeet(j);
            if (second != NONE) {
                found = PAIR_BENDS * (bend + PAIR_BEND) + second;
            }
        }
        pieces.write(i, BEND, wasI);
        pieces.write(j, BEND, wasJ);
        return found;
    }

    public int alike(int piece) {
        if (piece == NONE) {
            return unlike();
        }
        return pieces.has(piece) ? alikeTo(piece) : BAD;
    }

    /** The place, among the bends that a pair may have, of the first by which the line meets. */
    private int firstToMeet(int piece) {
        int turn = cell(rules, LEAN) - line.turnBut(piece);
        int offset = cell(rules, END) - line.offsetBut(piece);
        for (int place = 0; place < PAIR_BENDS; place++) {
            if (meetsBy(piece, place - PAIR_BEND, turn, offset)) {
                return place;
            }
        }
        return NONE;
    }

    private boolean meetsBy(int piece, int bend, int turn, int offset) {
        pieces.write(piece, BEND, bend);
        return line.turnReached(piece) == turn && line.offsetReached(piece) == offset;
    }

    private int alikeTo(int piece) {
        int bits = 0;
        for (int other = 0; other < pieces.size; other++) {
            if (pieces.same(piece, other)) {
                bits |= 1 << other;
            }
        }
        return bits;
    }

    private int unlike() {
        int number = 0;
        for (int piece = 0; piece < pieces.size; piece++) {
            int ahead = (1 << piece) - 1;
            if ((alikeTo(piece) & ahead) == 0) {
                number++;
            }
        }
        return number;
    }

    // ---- an old line

    public long slew(int sheet, int station) {
        Sheet row = sheetOf(sheet);
        if (row == null || row.isMissing() || !within(station, 0, line.stations)) {
            return NO;
        }
        old.tell(row);
        return old.slewAt(station);
    }

    public long slews(int sheet, int what) {
        Sheet row = sheetOf(sheet);
        if (row == null || row.isMissing()) {
            return NO;
        }
        old.tell(row);
        switch (what) {
            case 0:
                return old.widest();
            case 1:
                return old.together();
            case 2:
                return old.slewAt(line.stations);
            default:
                return NO;
        }
    }

    public int by(int sheet, int piece) {
        Sheet row = sheetOf(sheet);
        if (row == null || !pieces.has(piece)) {
            return BAD;
        }
        if (row.isMissing()) {
            return MISSING;
        }
        old.tell(row);
        int was = pieces.read(piece, BEND);
        int found = -MOST_BEND;
        int least = 0;
        for (int bend = -MOST_BEND; bend <= MOST_BEND; bend++) {
            line.attempt(piece, BEND, bend);
            old.sum();
            int greatest = old.greatest();
            if (bend == -MOST_BEND || greatest < least) {
                least = greatest;
                found = bend;
            }
        }
        line.attempt(piece, BEND, was);
        return 1000 + found;
    }

    public long errors(int seed, int n) {
        if (!within(n, 0, MOST_ERROR)) {
            return NO;
        }
        old.err(seed, n);
        return old.greatest();
    }

    public int chance(int seed, int m, int n, int w, int part) {
        if (!within(m, 1, MOST_SEEDS) || !within(n, 0, MOST_ERROR) || w < 0 || !within(part, 0, 1)) {
            return BAD;
        }
        int good = 0;
        for (int i = 0; i < m; i++) {
            old.err(seed + i, n);
            if (old.greatest() <= w) {
                good++;
            }
        }
        return share(part == 0 ? good : m, commonDivisor(good, m));
    }

    // ---- what was told, texts

    public int tells(int sheet, int f, int piece) {
        Sheet row = sheetOf(sheet);
        if (row == null || !within(f, 1, MOST_STATIONS) || piece != NONE && !pieces.has(piece)) {
            return BAD;
        }
        if (row.isMissing()) {
            return MISSING;
        }
        if (row.size > MOST_TOLD) {
            return BAD;
        }
        return piece == NONE ? firstOtherwise(row, f) : kindsTold(row, f, piece);
    }

    public int film(int sheet, int f, int n) {
        Sheet row = sheetOf(sheet);
        if (row == null || !within(f, 1, MOST_STATIONS) || !within(n, 0, MOST_ITEMS)) {
            return BAD;
        }
        row.become(SHORTS, n);
        for (int i = 0; i < n; i++) {
            if (f + i <= line.stations) {
                row.write(i, cell(line.versines, f + i));
            }
        }
        return n;
    }

    public int feed(int n, int a, int b, int c, int d, int e) {
        if (!within(n, 1, 5) || !isByte(a) || !isByte(b) || !isByte(c) || !isByte(d) || !isByte(e)) {
            return BAD;
        }
        if (tape.size + n > MOST_BYTES) {
            return FULL;
        }
        for (int i = 0; i < n; i++) {
            tape.append(i == 0 ? a : i == 1 ? b : i == 2 ? c : i == 3 ? d : e);
        }
        return tape.size;
    }

    public int text() {
        int fault = tape.faultOf();
        tape.size = 0;
        if (fault != NONE) {
            return -100 - fault;
        }
        int carried = 0;
        for (int clause = 0; clause < tape.clauses; clause++) {
            if (carryOut(clause)) {
                carried++;
            }
        }
        return carried;
    }

    private int firstOtherwise(Sheet row, int f) {
        for (int i = 0; i < row.size; i++) {
            if (f + i > line.stations || row.read(i) != cell(line.versines, f + i)) {
                return i;
            }
        }
        return NONE;
    }

    private int kindsTold(Sheet row, int f, int piece) {
        int was = pieces.read(piece, KIND);
        int bits = 0;
        for (int kind = STRAIGHT; kind <= FLAT; kind++) {
            line.attempt(piece, KIND, kind);
            if (firstOtherwise(row, f) == NONE) {
                bits |= 1 << kind;
            }
        }
        line.attempt(piece, KIND, was);
        return bits;
    }

    private boolean carryOut(int clause) {
        int a = tape.numberOf(clause, 0);
        int b = tape.numberOf(clause, 1);
        switch (tape.wordOf(clause)) {
            case 0:
                return piece(a, b, tape.numberOf(clause, 2), tape.numberOf(clause, 3)) >= 0;
            case 1:
                return set(a, 1, b) != REFUSED;
            case 2:
                return set(a, 2, b) != REFUSED;
            case 3:
                return rule(SPEED, a) != NO;
            default:
                return drop() != STATE;
        }
    }

    // ---- the image, the host

    public int image() {
        keptPieces.takeFrom(pieces);
        System.arraycopy(rules, 0, keptRules, 0, Math.min(rules.length, keptRules.length));
        kept = true;
        return pieces.size;
    }

    public int back() {
        if (!kept) {
            return STATE;
        }
        pieces.takeFrom(keptPieces);
        System.arraycopy(keptRules, 0, rules, 0, Math.min(rules.length, keptRules.length));
        line.lay();
        return pieces.size;
    }

    public int load(int sheet, int sort, int from, int n) {
        Sheet row = sheetOf(sheet);
        if (row == null || !within(sort, SHORTS, INTS) || !within(n, 0, MOST_PIECES)) {
            return BAD;
        }
        if (row.isMissing()) {
            return MISSING;
        }
        if (row.sort != sort) {
            return OTHER;
        }
        int came = 0;
        for (int i = 0; i < n; i++) {
            // A long, as a place near the end of the ints would wrap round to a good one.
            long first = (long) from + (long) FIELDS * i;
            if (first < 0 || first + FIELDS > row.size) {
                return OUTSIDE;
            }
            int i0 = (int) first;
            if (piece(row.read(i0), row.read(i0 + 1), row.read(i0 + 2), row.read(i0 + 3)) >= 0) {
                came++;
            }
        }
        return came;
    }

    public int count(int what) {
        switch (what) {
            case 0:
                return pieces.size;
            case 1:
                return line.stations;
            case 2:
                return tape.size;
            case 3:
                return reversed();
            case 4:
                return raised();
            default:
                return BAD;
        }
    }

    public int sheet(int sheet, int sort, int n) {
        Sheet row = sheetOf(sheet);
        if (row == null || !within(sort, NONE, INTS)) {
            return BAD;
        }
        if (sort == NONE) {
            row.become(NONE, 0);
            return 1;
        }
        if (n > MOST_ITEMS) {
            return BAD;
        }
        if (n < 0) {
            return BELOW;
        }
        row.become(sort, n);
        return 1;
    }

    public int put(int sheet, int i, int v) {
        Sheet row = sheetOf(sheet);
        if (row == null) {
            return BAD;
        }
        if (row.isMissing()) {
            return MISSING;
        }
        if (!within(i, 0, row.size - 1)) {
            return OUTSIDE;
        }
        row.write(i, v);
        return 1;
    }

    public int copy(int sheet, int i, int other, int j, int n) {
        Sheet from = sheetOf(sheet);
        Sheet to = sheetOf(other);
        if (from == null || to == null) {
            return BAD;
        }
        if (from.isMissing() || to.isMissing()) {
            return MISSING;
        }
        if (from.sort != to.sort) {
            return OTHER;
        }
        if (n < 0 || !within(i, 0, from.size - n) || !within(j, 0, to.size - n)) {
            return OUTSIDE;
        }
        System.arraycopy(from.items, i, to.items, j, n);
        return n;
    }

    private int reversed() {
        int lengths = 0;
        for (int piece = 0; piece < pieces.size; piece++) {
            if (pieces.read(piece, KIND) == REVERSE) {
                lengths += pieces.read(piece, LENGTH);
            }
        }
        return lengths;
    }

    private int raised() {
        int number = 0;
        for (int station = 1; station <= line.stations; station++) {
            if (cell(line.heights, station) > 0) {
                number++;
            }
        }
        return number;
    }

    private Sheet sheetOf(int sheet) {
        return within(sheet, 0, sheets.length - 1) ? sheets[sheet] : null;
    }

    // ---- shared by all

    private static int cell(int[] row, int i) {
        return i >= 0 && i < row.length ? row[i] : 0;
    }

    private static void mark(int[] row, int i, int v) {
        if (i >= 0 && i < row.length) {
            row[i] = v;
        }
    }

    private static boolean within(int v, int least, int most) {
        return v >= least && v <= most;
    }

    private static boolean isByte(int v) {
        return within(v, 0, 255);
    }

    private static boolean fits(int field, int v) {
        return within(v, cell(FIELD_LEAST, field), cell(FIELD_MOST, field));
    }

    private static int share(int whole, int parts) {
        return parts == 0 ? 0 : whole / parts;
    }

    private static int commonDivisor(int a, int b) {
        int x = a;
        int y = b;
        for (int i = 0; i < 100 && y != 0; i++) {
            int rest = x % y;
            x = y;
            y = rest;
        }
        return x;
    }

    private static boolean isUnder(int kind, int ancestor) {
        int k = kind;
        for (int i = 0; i < PARENTS.length && k != NONE; i++) {
            if (k == ancestor) {
                return true;
            }
            k = cell(PARENTS, k);
        }
        return false;
    }

    /** At place k of n: an ease goes from what is ahead of it to its end, all else is at its end throughout. */
    private static int along(int kind, int ahead, int end, int k, int n) {
        switch (kind) {
            case EASE:
                return ahead + share((end - ahead) * k, n);
            case SHARP:
                return ahead + share((end - ahead) * k * k, n * n);
            default:
                return end;
        }
    }

    private static int made(int kind, int length) {
        int digits = length == 1 ? 123 : 13;
        for (int k = CIRCLE; k <= FLAT; k++) {
            if (isUnder(kind, k)) {
                digits = digits * 10 + 3 + k;
            }
        }
        return digits;
    }

    /** What the host gives to the pieces, four numbers each. */
    private static final class Pieces {
        final int[] values;
        int size;

        Pieces() {
            values = new int[FIELDS * MOST_PIECES];
            size = 0;
        }

        boolean has(int piece) {
            return piece >= 0 && piece < size;
        }

        /** 0 of a piece that isn't there: so much is ahead of the first one. */
        int read(int piece, int field) {
            if (piece < 0 || piece >= size) {
                return 0;
            }
            return cell(values, piece * FIELDS + field);
        }

        void write(int piece, int field, int v) {
            if (has(piece)) {
                mark(values, piece * FIELDS + field, v);
            }
        }

        boolean same(int one, int other) {
            for (int field = 0; field < FIELDS; field++) {
                if (read(one, field) != read(other, field)) {
                    return false;
                }
            }
            return true;
        }

        void takeFrom(Pieces others) {
            System.arraycopy(others.values, 0, values, 0, Math.min(values.length, others.values.length));
            size = others.size;
        }
    }

    /** What follows from the pieces, station by station; place 0 of each row stays 0. */
    private static final class Line {
        final Pieces pieces;
        final int[] starts, owners, versines, heights, turns, offsets;
        int stations;

        Line(Pieces pieces) {
            this.pieces = pieces;
            starts = new int[MOST_PIECES];
            owners = new int[MOST_STATIONS + 1];
            versines = new int[MOST_STATIONS + 1];
            heights = new int[MOST_STATIONS + 1];
            turns = new int[MOST_STATIONS + 1];
            offsets = new int[MOST_STATIONS + 1];
            stations = 0;
        }

        void lay() {
            int laid = 0;
            for (int piece = 0; piece < pieces.size; piece++) {
                mark(starts, piece, laid + 1);
                fill(piece);
                laid += pieces.read(piece, LENGTH);
            }
            stations = laid;
            for (int station = 1; station <= stations; station++) {
                mark(turns, station, cell(turns, station - 1) + cell(versines, station));
                mark(offsets, station, cell(offsets, station - 1) + cell(turns, station));
            }
        }

        void fill(int piece) {
            if (!pieces.has(piece)) {
                return;
            }
            int kind = pieces.read(piece, KIND);
            // Cants rise evenly, along a SHARP too.
            int rise = kind == SHARP ? EASE : kind;
            int n = pieces.read(piece, LENGTH);
            int ahead = endVersine(piece - 1);
            int end = endVersine(piece);
            int low = pieces.read(piece - 1, CANT);
            int cant = pieces.read(piece, CANT);
            for (int k = 1; k <= n; k++) {
                int station = firstOf(piece) + k - 1;
                mark(owners, station, piece);
                mark(versines, station, along(kind, ahead, end, k, n));
                mark(heights, station, along(rise, low, cant, k, n));
            }
        }

        /** Fills anew only what a piece's own numbers reach: itself and the one behind it. */
        void attempt(int piece, int field, int v) {
            pieces.write(piece, field, v);
            fill(piece);
            fill(piece + 1);
        }

        int firstOf(int piece) {
            return cell(starts, piece);
        }

        int lastOf(int piece) {
            return firstOf(piece) + pieces.read(piece, LENGTH) - 1;
        }

        /** An ease ends with its own bend, whatever stands ahead of it: no chain is to be walked. */
        int endVersine(int piece) {
            int bend = pieces.read(piece, BEND);
            switch (pieces.read(piece, KIND)) {
                case STRAIGHT:
                    return 0;
                case REVERSE:
                    return -bend;
                case FLAT:
                    return bend / 2;
                default:
                    return bend;
            }
        }

        int turnOf(int piece) {
            int kind = pieces.read(piece, KIND);
            int n = pieces.read(piece, LENGTH);
            int end = endVersine(piece);
            // A pair of bends asks for some 3700 turns: only those of eases are worth a walk.
            if (!isUnder(kind, EASE)) {
                return n * end;
            }
            int ahead = endVersine(piece - 1);
            int sum = 0;
            for (int k = 1; k <= n; k++) {
                sum += along(kind, ahead, end, k, n);
            }
            return sum;
        }

        /** What a piece adds to the last station's offset: each versine counts once for each station from its own on. */
        int offsetOf(int piece) {
            int kind = pieces.read(piece, KIND);
            int n = pieces.read(piece, LENGTH);
            int ahead = endVersine(piece - 1);
            int end = endVersine(piece);
            int behind = stations - firstOf(piece) + 2;
            int sum = 0;
            for (int k = 1; k <= n; k++) {
                sum += along(kind, ahead, end, k, n) * (behind - k);
            }
            return sum;
        }

        /** The turn of all pieces but those that a piece's bend reaches. */
        int turnBut(int piece) {
            int sum = 0;
            for (int other = 0; other < pieces.size; other++) {
                if (other != piece && other != piece + 1) {
                    sum += turnOf(other);
                }
            }
            return sum;
        }

        int offsetBut(int piece) {
            int sum = 0;
            for (int other = 0; other < pieces.size; other++) {
                if (other != piece && other != piece + 1) {
                    sum += offsetOf(other);
                }
            }
            return sum;
        }

        int turnReached(int piece) {
            return turnOf(piece) + turnOf(piece + 1);
        }

        int offsetReached(int piece) {
            return offsetOf(piece) + offsetOf(piece + 1);
        }
    }

    /** A second line of versines, and how far it lies off the first: slews are sums of what the versines differ. */
    private static final class OldLine {
        final Line line;
        final int[] versines, slews;

        OldLine(Line line) {
            this.line = line;
            versines = new int[MOST_STATIONS + 1];
            slews = new int[MOST_STATIONS + 1];
        }

        void tell(Sheet row) {
            for (int station = 1; station < versines.length; station++) {
                int v = row.read(station - 1);
                mark(versines, station, Math.max(-MOST_VERSINE, Math.min(MOST_VERSINE, v)));
            }
            sum();
        }

        void err(int seed, int n) {
            int z = seed;
            int span = 2 * n + 1;
            for (int station = 1; station <= line.stations; station++) {
                z = z * 1103515245 + 12345;
                int error = span > 0 ? (z >>> 9) % span - n : 0;
                mark(versines, station, cell(line.versines, station) + error);
            }
            sum();
        }

        /** To be called again when the line becomes another. */
        void sum() {
            int turn = 0;
            for (int station = 1; station <= line.stations; station++) {
                turn += cell(versines, station) - cell(line.versines, station);
                mark(slews, station, cell(slews, station - 1) + turn);
            }
        }

        int slewAt(int station) {
            return cell(slews, station);
        }

        int greatest() {
            int most = 0;
            for (int station = 1; station <= line.stations; station++) {
                most = Math.max(most, Math.abs(slewAt(station)));
            }
            return most;
        }

        int widest() {
            int most = greatest();
            for (int station = 1; station <= line.stations; station++) {
                if (Math.abs(slewAt(station)) == most) {
                    return station;
                }
            }
            return NONE;
        }

        long together() {
            long sum = 0;
            for (int station = 1; station <= line.stations; station++) {
                sum += Math.abs(slewAt(station));
            }
            return sum;
        }
    }

    /** A row of numbers of a sort, or missing (sort NONE); one store serves for all that it becomes. */
    private static final class Sheet {
        final int[] items;
        int sort, size;

        Sheet() {
            items = new int[MOST_ITEMS];
            sort = NONE;
            size = 0;
        }

        boolean isMissing() {
            return sort == NONE;
        }

        void become(int newSort, int newSize) {
            for (int i = 0; i < items.length; i++) {
                items[i] = 0;
            }
            sort = newSort;
            size = Math.min(newSize, items.length);
        }

        /** 0 behind the last item, as an old line wants it. */
        int read(int i) {
            return i < size ? cell(items, i) : 0;
        }

        void write(int i, int v) {
            if (i < size) {
                mark(items, i, sort == SHORTS ? (short) v : v);
            }
        }
    }

    /** The bytes that came, the token that is read, and the clauses that a whole text left. */
    private static final class Tape {
        final int[] bytes, words, numbers;
        int size, clauses;
        int here, start, sort, value;

        Tape() {
            bytes = new int[MOST_BYTES];
            words = new int[MOST_CLAUSES];
            numbers = new int[MOST_CLAUSES * FIELDS];
            size = 0;
            clauses = 0;
            here = 0;
            start = 0;
            sort = ENDED;
            value = 0;
        }

        void append(int b) {
            mark(bytes, size, b);
            size++;
        }

        int wordOf(int clause) {
            return cell(words, clause);
        }

        int numberOf(int clause, int i) {
            return cell(numbers, clause * FIELDS + i);
        }

        /** The place of the fault, NONE without one; the clauses then stand in their rows. */
        int faultOf() {
            here = 0;
            clauses = 0;
            for (int i = 0; i < MOST_BYTES; i++) {
                if (!readClause()) {
                    return start;
                }
                nextToken();
                if (sort == ENDED) {
                    return NONE;
                }
                if (sort != SIGN) {
                    return start;
                }
            }
            return start;
        }

        boolean readClause() {
            nextToken();
            if (sort != WORD) {
                return false;
            }
            int word = value;
            mark(words, clauses, word);
            int asked = cell(NUMBERS_OF_WORD, word);
            for (int i = 0; i < asked; i++) {
                nextToken();
                if (sort != NUMBER) {
                    return false;
                }
                mark(numbers, clauses * FIELDS + i, value);
            }
            clauses++;
            return true;
        }

        void nextToken() {
            while (here < size && isBlank(cell(bytes, here))) {
                here++;
            }
            start = here;
            if (here >= size) {
                sort = ENDED;
                return;
            }
            int b = cell(bytes, here);
            if (isLetter(b)) {
                readWord();
            } else if (b == '-' || isDigit(b)) {
                readNumber();
            } else {
                sort = b == ';' ? SIGN : WRONG;
                here++;
            }
        }

        void readWord() {
            while (here < size && isLetter(cell(bytes, here))) {
                here++;
            }
            sort = WRONG;
            for (int word = 0; word < NUMBERS_OF_WORD.length; word++) {
                if (spells(nameOf(word))) {
                    sort = WORD;
                    value = word;
                }
            }
        }

        void readNumber() {
            boolean minus = cell(bytes, here) == '-';
            if (minus) {
                here++;
            }
            int first = here;
            int sum = 0;
            while (here < size && isDigit(cell(bytes, here))) {
                sum = sum * 10 + cell(bytes, here) - '0';
                here++;
            }
            int digits = here - first;
            sort = within(digits, 1, DIGITS) ? NUMBER : WRONG;
            value = minus ? -sum : sum;
        }

        boolean spells(String name) {
            if (here - start != name.length()) {
                return false;
            }
            for (int i = 0; i < name.length(); i++) {
                if (cell(bytes, start + i) != name.charAt(i)) {
                    return false;
                }
            }
            return true;
        }

        static String nameOf(int word) {
            switch (word) {
                case 0:
                    return "piece";
                case 1:
                    return "bend";
                case 2:
                    return "cant";
                case 3:
                    return "speed";
                default:
                    return "drop";
            }
        }

        static boolean isBlank(int b) {
            return b == 32 || b == 10;
        }

        static boolean isLetter(int b) {
            return within(b, 'a', 'z');
        }

        static boolean isDigit(int b) {
            return within(b, '0', '9');
        }
    }
}
