/** Promises 12 to 25: each sentence that names an edge, by itself. */
public final class EdgesOfAnswersTest {
    private static final int MIN = Integer.MIN_VALUE, MAX = Integer.MAX_VALUE;
    private static final long NO = RailOffsets.NO;

    public static void main(String[] args) {
        needsAndFaults();
        speedsAndCants();
        ends();
        pairsAndLikes();
        slews();
        bends();
        errors();
        Check.done("EdgesOfAnswersTest");
    }

    private static RailOffsets full() {
        RailOffsets x = new RailOffsets();
        for (int i = 0; i < 10; i++) {
            x.piece(1, 20, 0, 0);
        }
        return x;
    }

    // ---- promises 12 and 13

    private static void needsAndFaults() {
        Check.holds("12. NEED (what 0), whether it LACKS (1; 1, 0), is TOO HIGH (2), STEEP (3)", EdgesOfAnswersTest::needTells);
        Check.holds("12. BAD: no STATION (0 too)", EdgesOfAnswersTest::needNowhere);
        Check.holds("12. BAD: what", EdgesOfAnswersTest::needOfNoWhat);
        Check.holds("13. FAULT (what 0; NONE), WHY (1; 0), CAUSES (2; 0), ROOT (3; 0: no FAULT)", EdgesOfAnswersTest::noFault);
        Check.holds("13. FAULT at the first of all STATIONS and at the last of 200", EdgesOfAnswersTest::faultAtTheEnds);
        Check.holds("13. BAD", EdgesOfAnswersTest::faultOfNoWhat);
    }

    private static void needTells() {
        RailOffsets x = Scene.one(1, 1, 30, 32);
        x.piece(1, 1, 29, 50);
        x.piece(0, 1, 29, 76);
        int[][] want = {{108, 1, 0, 1}, {104, 0, 0, 0}, {0, 0, 1, 1}};
        for (int s = 1; s <= 3; s++) {
            for (int what = 0; what < 4; what++) {
                Check.due("need(" + s + ", " + what + ")", x.need(s, what), want[s - 1][what]);
            }
        }
    }

    private static void needNowhere() {
        RailOffsets x = new RailOffsets();
        for (int what = 0; what < 4; what++) {
            Check.due("of no line", x.need(0, what), -2);
            Check.due("of no line", x.need(1, what), -2);
        }
        x.piece(1, 2, 10, 0);
        Check.due("the first", x.need(1, 0), 36);
        Check.due("the last", x.need(2, 0), 36);
        for (int s : new int[] {0, -1, 3, MIN, MAX}) {
            for (int what = 0; what < 4; what++) {
                Check.due("need(" + s + ", " + what + ")", x.need(s, what), -2);
            }
        }
        RailOffsets y = full();
        Check.due("station 200", y.need(200, 0), 0);
        Check.due("station 201", y.need(201, 0), -2);
    }

    private static void needOfNoWhat() {
        RailOffsets x = Scene.one(1, 2, 10, 0);
        for (int what : new int[] {-1, 4, MIN, MAX}) {
            Check.due("need(1, " + what + ")", x.need(1, what), -2);
        }
    }

    private static void noFault() {
        RailOffsets x = new RailOffsets();
        Check.fault(x, -1, 0, 0, 0);
        x.piece(1, 20, 20, 20);
        Check.fault(x, -1, 0, 0, 0);
        x.set(0, 2, 21);
        Check.fault(x, 1, 3, 1, 1);
        x.drop();
        Check.fault(x, -1, 0, 0, 0);
    }

    private static void faultAtTheEnds() {
        RailOffsets x = full();
        Check.fault(x, -1, 0, 0, 0);
        x.set(9, 3, 4);
        x.set(9, 1, 22);
        Check.fault(x, 200, 1, 1, 1);
        x.set(0, 2, 21);
        Check.fault(x, 1, 3, 1, 1);
    }

    private static void faultOfNoWhat() {
        RailOffsets x = new RailOffsets();
        RailOffsets y = Scene.one(1, 1, 99, 0);
        for (int what : new int[] {-1, 4, MIN, MAX}) {
            Check.due("without a fault", x.fault(what), -2);
            Check.due("with one", y.fault(what), -2);
        }
    }

    // ---- promises 14 to 16

    private static void speedsAndCants() {
        Check.holds("14. MAY; NONE", EdgesOfAnswersTest::mayOrNone);
        Check.holds("14. BAD: no STATION", EdgesOfAnswersTest::mayNowhere);
        Check.holds("15. LIMIT (no STATIONS: 200)", EdgesOfAnswersTest::limitOfNone);
        Check.holds("15. NONE", EdgesOfAnswersTest::limitNone);
        Check.holds("16. LEAST CANT; NONE", EdgesOfAnswersTest::leastOrNone);
        Check.holds("16. BAD: no PIECE", EdgesOfAnswersTest::leastOfNone);
    }

    private static void mayOrNone() {
        RailOffsets x = Scene.one(0, 1, 0, 75);
        x.piece(0, 1, 0, 76);
        x.piece(1, 1, 99, 0);
        x.piece(1, 1, -99, 160);
        Check.due("all", x.may(1), 200);
        Check.due("none", x.may(2), -1);
        // 25 needs 61, 30 needs 89; 45 needs 200, 50 needs 247.
        Check.due("99 by no cant", x.may(3), 25);
        Check.due("99 by all of it", x.may(4), 45);
        x.rule(1, 0);
        Check.due("5 needs 2 of 99", x.may(3), 0);
    }

    private static void mayNowhere() {
        RailOffsets x = new RailOffsets();
        Check.due("may(0) of no line", x.may(0), -2);
        Check.due("may(1) of no line", x.may(1), -2);
        x.piece(0, 2, 0, 0);
        Check.due("the first", x.may(1), 200);
        Check.due("the last", x.may(2), 200);
        for (int s : new int[] {0, -1, 3, MIN, MAX}) {
            Check.due("may(" + s + ")", x.may(s), -2);
        }
    }

    private static void limitOfNone() {
        RailOffsets x = new RailOffsets();
        Check.due("limit", x.limit(), 200);
        x.rule(1, 0);
        x.rule(2, 0);
        Check.due("limit", x.limit(), 200);
        x.piece(1, 1, 99, 0);
        Check.due("limit of one", x.limit(), 0);
        x.drop();
        Check.due("none again", x.limit(), 200);
    }

    private static void limitNone() {
        RailOffsets x = full();
        Check.due("all", x.limit(), 200);
        x.set(9, 2, 75);
        Check.due("all", x.limit(), 200);
        x.set(9, 2, 76);
        Check.due("the last is too high", x.limit(), -1);
        x.set(9, 2, 0);
        x.set(0, 2, 76);
        Check.due("the first is too high", x.limit(), -1);
        x.rule(2, 76);
        Check.due("none is", x.limit(), 200);
    }

    private static void leastOrNone() {
        RailOffsets x = Scene.one(0, 20, 99, 160);
        Check.due("a STRAIGHT", x.least(0), 0);
        x.set(0, 3, 1);
        x.set(0, 1, 65);
        // 65 needs 234 by 60, 66 needs 237.
        Check.due("234 less 75", x.least(0), 159);
        x.set(0, 1, -66);
        Check.due("237 less 75", x.least(0), -1);
        x.rule(1, 77);
        Check.due("237 less 77", x.least(0), 160);
        x.rule(1, 160);
        Check.due("237 less 160", x.least(0), 77);
    }

    private static void leastOfNone() {
        RailOffsets x = new RailOffsets();
        Check.due("no pieces", x.least(0), -2);
        RailOffsets y = full();
        Check.due("the tenth", y.least(9), 0);
        for (int piece : new int[] {-1, 10, MIN, MAX}) {
            Check.due("least(" + piece + ")", y.least(piece), -2);
        }
        y.drop();
        Check.due("the dropped", y.least(9), -2);
    }

    // ---- promises 17 and 18

    private static void ends() {
        Check.holds("17. MISS of no STATIONS", EdgesOfAnswersTest::missOfNone);
        Check.holds("17. MISS of the longest line, END and LEAN at their ends", EdgesOfAnswersTest::missOfAll);
        Check.holds("17. NO", EdgesOfAnswersTest::missOfNoWhat);
        Check.holds("18. 1000 and the BEND: 901 .. 1099; NONE", EdgesOfAnswersTest::meetsOrNone);
        Check.holds("18. BAD", EdgesOfAnswersTest::meetsBad);
    }

    private static void missOfNone() {
        RailOffsets x = new RailOffsets();
        Check.due("offset", x.miss(0), 0);
        Check.due("turn", x.miss(1), 0);
        x.rule(6, 1000000);
        x.rule(7, -10000);
        Check.due("offset", x.miss(0), -1000000);
        Check.due("turn", x.miss(1), 10000);
    }

    private static void missOfAll() {
        RailOffsets x = full();
        for (int i = 0; i < 10; i++) {
            x.set(i, 1, 99);
        }
        x.rule(6, -1000000);
        x.rule(7, -10000);
        Check.due("offset", x.miss(0), 2989900);
        Check.due("turn", x.miss(1), 29800);
        for (int i = 0; i < 10; i++) {
            x.set(i, 1, -99);
        }
        x.rule(6, 1000000);
        x.rule(7, 10000);
        Check.due("offset", x.miss(0), -2989900);
        Check.due("turn", x.miss(1), -29800);
    }

    private static void missOfNoWhat() {
        RailOffsets x = Scene.one(1, 2, 3, 4);
        for (int what : new int[] {-1, 2, MIN, MAX}) {
            Check.due("miss(" + what + ")", x.miss(what), NO);
            Check.due("miss of none", new RailOffsets().miss(what), NO);
        }
    }

    private static void meetsOrNone() {
        RailOffsets x = full();
        // 200 stations straight but for the last twenty: turn 20 b, offset 210 b.
        for (int bend : new int[] {-99, -98, -1, 0, 1, 98, 99}) {
            x.rule(6, 210 * bend);
            x.rule(7, 20 * bend);
            Check.due("by " + bend, x.meets(9), 1000 + bend);
        }
        for (int bend : new int[] {-100, 100}) {
            x.rule(6, 210 * bend);
            x.rule(7, 20 * bend);
            Check.due("by " + bend, x.meets(9), -1);
        }
        // All but the first of them cannot: turn 20 b, offset 210 b and 180 times the turn.
        x.rule(6, 210 + 3600);
        x.rule(7, 20);
        Check.due("the first", x.meets(0), 1001);
        Check.due("the last", x.meets(9), -1);
    }

    private static void meetsBad() {
        RailOffsets x = new RailOffsets();
        Check.due("no pieces", x.meets(0), -2);
        RailOffsets y = full();
        Check.due("the tenth", y.meets(9), 1000);
        for (int piece : new int[] {-1, 10, MIN, MAX}) {
            Check.due("meets(" + piece + ")", y.meets(piece), -2);
        }
        y.set(9, 3, 2);
        y.set(9, 1, 50);
        y.drop();
        Check.due("the dropped", y.meets(9), -2);
        Check.due("the last one, with no ease behind it any more", y.meets(8), 1000);
    }

    // ---- promises 19 and 20

    private static void pairsAndLikes() {
        Check.holds("19. MEETS by two PIECES: 0 .. 3720; NONE", EdgesOfAnswersTest::bothOrNone);
        Check.holds("19. BAD: also the same", EdgesOfAnswersTest::bothBad);
        Check.holds("20. PIECES (bits) ALIKE to one, itself too", EdgesOfAnswersTest::alikeTells);
        Check.holds("20. (NONE: UNLIKE)", EdgesOfAnswersTest::unlikeByNone);
        Check.holds("20. BAD", EdgesOfAnswersTest::alikeBad);
    }

    private static void bothOrNone() {
        RailOffsets x = full();
        // Turn 20 (a + b), offset 210 (a + b) and 3600 a.
        int[][] pairs = {{-30, -30, 0}, {30, 30, 3720}, {-30, 30, 60}, {30, -30, 3660}, {0, 0, 1860}, {31, 30, -1},
            {-31, -30, -1}, {30, 31, -1}, {-30, -31, -1}};
        for (int[] p : pairs) {
            x.rule(7, 20 * (p[0] + p[1]));
            x.rule(6, 210 * (p[0] + p[1]) + 3600 * p[0]);
            Check.due("by " + p[0] + " and " + p[1], x.both(0, 9), p[2]);
        }
    }

    private static void bothBad() {
        RailOffsets x = new RailOffsets();
        Check.due("no pieces", x.both(0, 1), -2);
        Check.due("no pieces", x.both(0, 0), -2);
        x.piece(0, 1, 0, 0);
        Check.due("one piece", x.both(0, 0), -2);
        Check.due("one piece", x.both(0, 1), -2);
        Check.due("one piece", x.both(1, 0), -2);
        RailOffsets y = full();
        for (int i : new int[] {-1, 10, MIN, MAX}) {
            Check.due("both(" + i + ", 0)", y.both(i, 0), -2);
            Check.due("both(0, " + i + ")", y.both(0, i), -2);
            Check.due("both(" + i + ", " + i + ")", y.both(i, i), -2);
        }
        for (int i = 0; i < 10; i++) {
            Check.due("both(" + i + ", " + i + ")", y.both(i, i), -2);
        }
        Check.due("the last two", y.both(9, 8), 1860);
        y.drop();
        Check.due("one is dropped", y.both(9, 8), -2);
        Check.due("one is dropped", y.both(8, 9), -2);
    }

    private static void alikeTells() {
        RailOffsets x = full();
        for (int i = 0; i < 10; i++) {
            Check.due("all", x.alike(i), 1023);
        }
        x.set(9, 0, 19);
        Check.due("but the last", x.alike(0), 511);
        Check.due("the last", x.alike(9), 512);
        x.drop();
        Check.due("it is gone", x.alike(8), 511);
        x.set(0, 3, 0);
        // A STRAIGHT's stations are alike, the PIECE is not.
        Check.due("the first", x.alike(0), 1);
    }

    private static void unlikeByNone() {
        RailOffsets x = new RailOffsets();
        Check.due("none", x.alike(-1), 0);
        x.piece(1, 1, 0, 0);
        Check.due("one", x.alike(-1), 1);
        x.piece(1, 1, 0, 0);
        Check.due("two alike", x.alike(-1), 1);
        for (int i = 2; i < 10; i++) {
            x.piece(1, i, 0, 0);
            Check.due("and others", x.alike(-1), i);
        }
        x.set(1, 0, 20);
        Check.due("all ten", x.alike(-1), 10);
    }

    private static void alikeBad() {
        RailOffsets x = new RailOffsets();
        Check.due("no pieces", x.alike(0), -2);
        RailOffsets y = full();
        for (int piece : new int[] {-2, 10, MIN, MAX}) {
            Check.due("alike(" + piece + ")", y.alike(piece), -2);
        }
        y.drop();
        Check.due("the dropped", y.alike(9), -2);
    }

    // ---- promises 21 and 22

    private static void slews() {
        Check.holds("21. SLEW at a STATION (0, too)", EdgesOfAnswersTest::slewAtNought);
        Check.holds("21. NO: no such STATION", EdgesOfAnswersTest::slewNowhere);
        Check.holds("21. NO: no such SHEET, it is missing", EdgesOfAnswersTest::slewOfNoSheet);
        Check.holds("22. WIDEST (what 0; NONE), together (1), SLEW of the last STATION (2; 0)", EdgesOfAnswersTest::slewsOfNone);
        Check.holds("22. SLEWS of all STATIONS without sign, together", EdgesOfAnswersTest::slewsTogether);
        Check.holds("22. NO: no such SHEET, it is missing", EdgesOfAnswersTest::slewsOfNoSheet);
        Check.holds("22. NO: what", EdgesOfAnswersTest::slewsOfNoWhat);
    }

    private static void slewAtNought() {
        RailOffsets x = new RailOffsets();
        Check.ints(x, 3, 5);
        Check.due("no line", x.slew(3, 0), 0);
        x.piece(0, 1, 0, 0);
        Check.due("a line", x.slew(3, 0), 0);
        Check.due("its last station", x.slew(3, 1), 5);
    }

    private static void slewNowhere() {
        RailOffsets x = new RailOffsets();
        Check.ints(x, 0, 5);
        Check.due("no line", x.slew(0, 1), NO);
        x.piece(0, 2, 0, 0);
        for (int s : new int[] {-1, 3, MIN, MAX}) {
            Check.due("slew(0, " + s + ")", x.slew(0, s), NO);
        }
        RailOffsets y = full();
        Check.ints(y, 0, 5);
        Check.due("station 200", y.slew(0, 200), 1000);
        Check.due("station 201", y.slew(0, 201), NO);
    }

    private static void slewOfNoSheet() {
        RailOffsets x = Scene.one(0, 1, 0, 0);
        for (int sheet = 0; sheet < 4; sheet++) {
            Check.due("missing", x.slew(sheet, 0), NO);
            Check.ints(x, sheet, 9);
            Check.due("no more", x.slew(sheet, 0), 0);
            x.sheet(sheet, -1, 0);
            Check.due("missing again", x.slew(sheet, 1), NO);
        }
        for (int sheet : new int[] {-1, 4, MIN, MAX}) {
            Check.due("slew(" + sheet + ", 0)", x.slew(sheet, 0), NO);
        }
    }

    private static void slewsOfNone() {
        RailOffsets x = new RailOffsets();
        Check.ints(x, 0, 7, 8, 9);
        Check.due("widest", x.slews(0, 0), -1);
        Check.due("together", x.slews(0, 1), 0);
        Check.due("the last", x.slews(0, 2), 0);
    }

    private static void slewsTogether() {
        RailOffsets x = Scene.one(0, 3, 0, 0);
        // Slews -5, 2, -4.
        Check.ints(x, 0, -5, 12, -13);
        Check.due("together", x.slews(0, 1), 11);
        Check.due("the last", x.slews(0, 2), -4);
        // 999 and 99 at 200 stations: all of them, together, above any one by far.
        RailOffsets y = full();
        y.sheet(1, 1, 40);
        long turn = 0;
        long slew = 0;
        long sum = 0;
        for (int s = 1; s <= 200; s++) {
            y.put(1, Math.min(s, 40) - 1, MIN);
            turn += s <= 40 ? -999 : 0;
            slew += turn;
            sum += Math.abs(slew);
        }
        Check.due("together", y.slews(1, 1), sum);
        Check.due("the last", y.slews(1, 2), slew);
        Check.due("widest", y.slews(1, 0), 200);
    }

    private static void slewsOfNoSheet() {
        RailOffsets x = Scene.one(0, 1, 0, 0);
        for (int what = 0; what < 3; what++) {
            for (int sheet = 0; sheet < 4; sheet++) {
                Check.due("missing", x.slews(sheet, what), NO);
            }
            for (int sheet : new int[] {-1, 4, MIN, MAX}) {
                Check.due("slews(" + sheet + ", " + what + ")", x.slews(sheet, what), NO);
            }
        }
    }

    private static void slewsOfNoWhat() {
        RailOffsets x = Scene.one(0, 1, 0, 0);
        Check.ints(x, 0, 7);
        for (int what : new int[] {-1, 3, MIN, MAX}) {
            Check.due("slews(0, " + what + ")", x.slews(0, what), NO);
            Check.due("slews(1, " + what + ")", x.slews(1, what), NO);
        }
    }

    // ---- promise 23

    private static void bends() {
        Check.holds("23. 1000 and the BEND: 901 .. 1099", EdgesOfAnswersTest::byTells);
        Check.holds("23. BAD: SHEET, piece", EdgesOfAnswersTest::byBad);
        Check.holds("23. -11, behind BAD", EdgesOfAnswersTest::byMissing);
    }

    private static void byTells() {
        RailOffsets x = full();
        Check.ints(x, 2);
        // An old line that lies as this one: each PIECE is to stay as it is.
        for (int piece = 0; piece < 10; piece++) {
            Check.due("by(2, " + piece + ")", x.by(2, piece), 1000);
        }
        RailOffsets y = Scene.one(1, 1, 0, 0);
        Check.shorts(y, 0, 99);
        Check.due("99", y.by(0, 0), 1099);
        Check.shorts(y, 0, -99);
        Check.due("-99", y.by(0, 0), 901);
        Check.shorts(y, 0, 300);
        Check.due("no more", y.by(0, 0), 1099);
        Check.shorts(y, 0, -300);
        Check.due("no less", y.by(0, 0), 901);
    }

    private static void byBad() {
        RailOffsets x = new RailOffsets();
        Check.ints(x, 0, 5);
        Check.due("no pieces", x.by(0, 0), -2);
        x.piece(0, 1, 0, 0);
        for (int sheet : new int[] {-1, 4, MIN, MAX}) {
            Check.due("by(" + sheet + ", 0)", x.by(sheet, 0), -2);
        }
        for (int piece : new int[] {-1, 1, 10, MIN, MAX}) {
            Check.due("by(0, " + piece + ")", x.by(0, piece), -2);
        }
    }

    private static void byMissing() {
        RailOffsets x = Scene.one(0, 1, 0, 0);
        Check.due("missing", x.by(0, 0), -11);
        Check.due("missing, but no such PIECE", x.by(0, 1), -2);
        Check.due("missing, but no such PIECE", x.by(0, -1), -2);
    }

    // ---- promises 24 and 25

    private static void errors() {
        Check.holds("24. ERRORS (n 0 .. 9)", EdgesOfAnswersTest::errorsByN);
        Check.holds("24. NO: n", EdgesOfAnswersTest::errorsByNoN);
        Check.holds("24. (0: there are no STATIONS; so by chance(), too)", EdgesOfAnswersTest::errorsOfNone);
        Check.holds("25. part 0 above, 1 below the line, in lowest terms", EdgesOfAnswersTest::lowestTerms);
        Check.holds("25. BAD: m", () -> badChance(1, new int[] {0, 21, -1, MIN, MAX}));
        Check.holds("25. BAD: n", () -> badChance(2, new int[] {-1, 10, MIN, MAX}));
        Check.holds("25. BAD: w (0 or more)", () -> badChance(3, new int[] {-1, MIN}));
        Check.holds("25. BAD: part", () -> badChance(4, new int[] {-1, 2, MIN, MAX}));
        Check.holds("25. m 1 and 20, n 0 and 9, w 0 and all ints above are taken", EdgesOfAnswersTest::goodChances);
    }

    private static void errorsByN() {
        RailOffsets x = Scene.one(1, 1, 99, 0);
        for (int seed : new int[] {0, 1, -1, MIN, MAX}) {
            Check.due("n 0", x.errors(seed, 0), 0);
        }
        // Of seed 0 it is 24 % (2 n + 1) less n, of MIN 4194328 % (2 n + 1) less n.
        int[] byNought = {0, 1, 2, 0, 2, 3, 5, 2, 1, 4};
        int[] byMin = {0, 0, 1, 2, 0, 1, 2, 6, 5, 7};
        for (int n = 1; n < 10; n++) {
            Check.due("errors(0, " + n + ")", x.errors(0, n), byNought[n]);
            Check.due("errors(MIN, " + n + ")", x.errors(MIN, n), byMin[n]);
        }
    }

    private static void errorsByNoN() {
        RailOffsets x = Scene.one(1, 1, 99, 0);
        for (int n : new int[] {-1, 10, MIN, MAX}) {
            Check.due("errors(0, " + n + ")", x.errors(0, n), NO);
            Check.due("of no line", new RailOffsets().errors(0, n), NO);
        }
    }

    private static void errorsOfNone() {
        RailOffsets x = new RailOffsets();
        for (int seed : new int[] {0, 5, MIN, MAX}) {
            Check.due("errors", x.errors(seed, 9), 0);
            Check.due("chance above", x.chance(seed, 20, 9, 0, 0), 1);
            Check.due("chance below", x.chance(seed, 20, 9, 0, 1), 1);
        }
    }

    private static void lowestTerms() {
        // From MAX - 2 on the first station errs by 5, 5, 8, 7, 7, 1, 1, 1, 0, 6 without sign.
        RailOffsets x = Scene.one(1, 1, 99, 0);
        int[][] rows = {{10, 9, 1, 1}, {10, 7, 9, 10}, {10, 6, 7, 10}, {10, 5, 3, 5}, {10, 4, 2, 5}, {8, 4, 3, 8},
            {9, 1, 4, 9}, {9, 6, 2, 3}, {8, 0, 0, 1}, {4, 5, 1, 2}, {4, 7, 3, 4}, {5, 4, 0, 1}, {1, 5, 1, 1}};
        for (int[] r : rows) {
            Check.due("above, m " + r[0] + ", w " + r[1], x.chance(MAX - 2, r[0], 9, r[1], 0), r[2]);
            Check.due("below, m " + r[0] + ", w " + r[1], x.chance(MAX - 2, r[0], 9, r[1], 1), r[3]);
        }
    }

    private static void badChance(int which, int[] bad) {
        RailOffsets x = Scene.one(1, 1, 99, 0);
        RailOffsets none = new RailOffsets();
        for (int v : bad) {
            int[] a = {0, 2, 3, 4, 0};
            a[which] = v;
            Check.due(new Call("chance", a).toString(), x.chance(a[0], a[1], a[2], a[3], a[4]), -2);
            Check.due("of no line", none.chance(a[0], a[1], a[2], a[3], a[4]), -2);
            a[4] = which == 4 ? v : 1;
            Check.due(new Call("chance", a).toString(), x.chance(a[0], a[1], a[2], a[3], a[4]), -2);
        }
    }

    private static void goodChances() {
        RailOffsets x = Scene.one(1, 1, 99, 0);
        Check.due("m 1, n 9, w 4", x.chance(0, 1, 9, 4, 0), 1);
        Check.due("m 20, n 9, w MAX", x.chance(0, 20, 9, MAX, 0), 1);
        Check.due("m 20, n 9, w MAX", x.chance(0, 20, 9, MAX, 1), 1);
        Check.due("m 20, n 0, w 0", x.chance(0, 20, 0, 0, 0), 1);
        Check.due("m 1, n 9, w 0", x.chance(0, 1, 9, 0, 0), 0);
        Check.due("m 1, n 9, w 0", x.chance(0, 1, 9, 0, 1), 1);
    }
}
