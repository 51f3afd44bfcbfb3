/** Terms, part 1, and what the document says in doubt of it: each sentence that names an edge, by itself. */
public final class EdgesOfTermsOneTest {
    private static final int MIN = Integer.MIN_VALUE, MAX = Integer.MAX_VALUE;
    private static final long NO = RailOffsets.NO;

    public static void main(String[] args) {
        numbers();
        versines();
        heights();
        sums();
        made();
        rules();
        Check.done("EdgesOfTermsOneTest");
    }

    private static void numbers() {
        Check.holds("PIECES, numbered from 0 as they come", EdgesOfTermsOneTest::numberedFromNought);
        Check.holds("(10 at most)", EdgesOfTermsOneTest::tenAtMost);
        Check.holds("KIND: 0 .. 5", () -> bounds(0, 0, 5));
        Check.holds("LENGTH (1 .. 20)", () -> bounds(1, 1, 20));
        Check.holds("BEND (-99 .. 99)", () -> bounds(2, -99, 99));
        Check.holds("CANT (0 .. 160)", () -> bounds(3, 0, 160));
        Check.holds("STATIONS 1, 2, .. go through all PIECES, LENGTH of each", EdgesOfTermsOneTest::stationsGoThrough);
        Check.holds("STATIONS: 200 of the longest line", EdgesOfTermsOneTest::twoHundredStations);
        Check.holds("NONE is -1; NO the least long; BAD -2, STATE -3, FULL -4", EdgesOfTermsOneTest::constants);
    }

    private static void numberedFromNought() {
        RailOffsets x = new RailOffsets();
        Check.due("the first", x.piece(0, 1, 0, 0), 0);
        Check.due("the next", x.piece(0, 1, 0, 0), 1);
        x.drop();
        Check.due("a number that is none's any more", x.piece(0, 1, 0, 0), 1);
        Check.due("-1 is none", x.of(-1, 0), -1000);
        Check.due("0 is one", x.of(0, 0), 0);
        Check.due("1 is one", x.of(1, 0), 0);
        Check.due("2 is none", x.of(2, 0), -1000);
    }

    private static void tenAtMost() {
        RailOffsets x = new RailOffsets();
        for (int i = 0; i < 10; i++) {
            Check.due("of ten", x.piece(0, 1, 0, 0), i);
        }
        Check.due("the eleventh", x.piece(0, 1, 0, 0), -4);
        Check.due("how many", x.count(0), 10);
        Check.due("the eleventh by a text", Check.told(x, "piece 0 1 0 0"), 0);
        Check.ints(x, 0, 0, 1, 0, 0);
        Check.due("the eleventh by a sheet", x.load(0, 1, 0, 1), 0);
        Check.due("how many", x.count(0), 10);
    }

    /** Least and most are taken by piece() and by set(), what is one or far beyond is not. */
    private static void bounds(int field, int least, int most) {
        int[] good = {0, 1, 0, 0};
        for (int v : new int[] {least, most}) {
            RailOffsets x = new RailOffsets();
            int[] q = good.clone();
            q[field] = v;
            Check.due("piece with " + v, x.piece(q[0], q[1], q[2], q[3]), 0);
            Check.due("of it", x.of(0, field), v);
            x.piece(1, 2, 3, 4);
            int was = x.of(1, field);
            Check.due("set to " + v, x.set(1, field == 0 ? 3 : field - 1, v), was);
            Check.due("of it", x.of(1, field), v);
        }
        for (int v : new int[] {least - 1, most + 1, MIN, MAX}) {
            RailOffsets x = new RailOffsets();
            int[] q = good.clone();
            q[field] = v;
            Check.due("piece with " + v, x.piece(q[0], q[1], q[2], q[3]), -2);
            Check.due("how many", x.count(0), 0);
            x.piece(1, 2, 3, 4);
            int was = x.of(0, field);
            Check.due("set to " + v, x.set(0, field == 0 ? 3 : field - 1, v), -1000);
            Check.due("of it", x.of(0, field), was);
        }
    }

    private static void stationsGoThrough() {
        RailOffsets x = new RailOffsets();
        Check.due("none at first", x.count(1), 0);
        Check.due("none at first", x.at(1, 0), NO);
        x.piece(1, 1, 5, 0);
        x.piece(1, 3, 6, 0);
        x.piece(1, 20, 7, 0);
        int[] pieces = {0, 1, 1, 1, 2};
        for (int s = 1; s <= 5; s++) {
            Check.due("piece at " + s, x.at(s, 4), pieces[s - 1]);
            Check.due("versine at " + s, x.at(s, 0), 5 + pieces[s - 1]);
        }
        Check.due("the last one", x.at(24, 4), 2);
        Check.due("the last one", x.at(24, 0), 7);
        Check.due("behind the last one", x.at(25, 4), NO);
        Check.due("how many", x.count(1), 24);
    }

    private static void twoHundredStations() {
        RailOffsets x = new RailOffsets();
        for (int i = 0; i < 10; i++) {
            x.piece(1, 20, 99, 160);
        }
        Check.due("how many", x.count(1), 200);
        Check.due("its piece", x.at(200, 4), 9);
        Check.due("its versine", x.at(200, 0), 99);
        Check.due("its height", x.at(200, 1), 160);
        Check.due("its turn", x.at(200, 2), 19800);
        Check.due("its offset", x.at(200, 3), 1989900);
        Check.due("station 201", x.at(201, 0), NO);
        for (int i = 0; i < 10; i++) {
            x.set(i, 1, -99);
        }
        Check.due("its turn to the other side", x.at(200, 2), -19800);
        Check.due("its offset to the other side", x.at(200, 3), -1989900);
    }

    private static void constants() {
        Check.due("NONE", RailOffsets.NONE, -1);
        Check.due("BAD", RailOffsets.BAD, -2);
        Check.due("STATE", RailOffsets.STATE, -3);
        Check.due("FULL", RailOffsets.FULL, -4);
        Check.due("NO", RailOffsets.NO == -9223372036854775808L ? 1 : 0, 1);
    }

    // ---- versines

    private static void versines() {
        Check.holds("VERSINE of a STRAIGHT: 0, whatever its BEND", EdgesOfTermsOneTest::straight);
        Check.holds("VERSINE of a CIRCLE: BEND, from its first STATION to its last", EdgesOfTermsOneTest::circle);
        Check.holds("an EASE at its last STATION (k is n) has its BEND", EdgesOfTermsOneTest::easeAtItsEnd);
        Check.holds("an EASE of LENGTH 1", EdgesOfTermsOneTest::easeOfOne);
        Check.holds("AHEAD: 0 ahead of all", EdgesOfTermsOneTest::aheadOfAll);
        Check.holds("AHEAD: the VERSINE of the STATION ahead, not the BEND", EdgesOfTermsOneTest::aheadIsAVersine);
        Check.holds("times k by n (cut towards 0), upwards and downwards", EdgesOfTermsOneTest::easesAreCut);
        Check.holds("In doubt: AHEAD and then (BEND less AHEAD) times k by n", EdgesOfTermsOneTest::aheadAndThen);
        Check.holds("VERSINE of a REVERSE: the minus of a CIRCLE's", EdgesOfTermsOneTest::reverse);
        Check.holds("VERSINE of a SHARP: times k times k by (n times n)", EdgesOfTermsOneTest::sharp);
        Check.holds("In doubt: of a SHARP one division by n times n", EdgesOfTermsOneTest::sharpDividesOnce);
        Check.holds("VERSINE of a FLAT: half of a CIRCLE's (cut towards 0)", EdgesOfTermsOneTest::flat);
        Check.holds("In doubt: AHEAD behind an EASE is the VERSINE of its last STATION", EdgesOfTermsOneTest::behindAnEase);
    }

    private static void row(RailOffsets x, int what, int from, int... want) {
        for (int i = 0; i < want.length; i++) {
            Check.due("at(" + (from + i) + ", " + what + ")", x.at(from + i, what), want[i]);
        }
    }

    private static void straight() {
        RailOffsets x = new RailOffsets();
        x.piece(0, 2, 99, 0);
        x.piece(0, 1, -99, 0);
        row(x, 0, 1, 0, 0, 0);
    }

    private static void circle() {
        RailOffsets x = new RailOffsets();
        x.piece(1, 20, 99, 0);
        x.piece(1, 1, -99, 0);
        x.piece(1, 2, 0, 0);
        row(x, 0, 1, 99, 99);
        row(x, 0, 20, 99, -99, 0, 0);
    }

    private static void easeAtItsEnd() {
        for (int kind : new int[] {2, 4}) {
            for (int n = 1; n <= 20; n++) {
                RailOffsets x = new RailOffsets();
                x.piece(1, 1, -98, 0);
                x.piece(kind, n, 97, 0);
                Check.due("kind " + kind + ", length " + n, x.at(n + 1, 0), 97);
                x.set(1, 1, -99);
                Check.due("kind " + kind + ", length " + n, x.at(n + 1, 0), -99);
            }
        }
    }

    private static void easeOfOne() {
        RailOffsets x = new RailOffsets();
        x.piece(2, 1, 8, 3);
        x.piece(4, 1, -8, 4);
        row(x, 0, 1, 8, -8);
        row(x, 1, 1, 3, 4);
    }

    private static void aheadOfAll() {
        RailOffsets x = new RailOffsets();
        x.piece(2, 2, 8, 0);
        row(x, 0, 1, 4, 8);
        x.set(0, 3, 4);
        row(x, 0, 1, 2, 8);
    }

    private static void aheadIsAVersine() {
        // Behind each kind with a BEND of 12 an ease of two stations goes to 0.
        int[] half = {0, 6, 6, -6, 6, 3};
        for (int kind = 0; kind < 6; kind++) {
            RailOffsets x = new RailOffsets();
            x.piece(kind, 3, 12, 0);
            x.piece(2, 2, 0, 0);
            Check.due("behind kind " + kind, x.at(4, 0), half[kind]);
        }
    }

    private static void easesAreCut() {
        RailOffsets x = new RailOffsets();
        x.piece(2, 4, 7, 0);
        row(x, 0, 1, 1, 3, 5, 7);
        x.set(0, 1, -7);
        row(x, 0, 1, -1, -3, -5, -7);
        RailOffsets y = new RailOffsets();
        y.piece(2, 20, 1, 0);
        row(y, 0, 18, 0, 0, 1);
        y.set(0, 1, -1);
        row(y, 0, 18, 0, 0, -1);
    }

    private static void aheadAndThen() {
        RailOffsets x = new RailOffsets();
        x.piece(1, 1, 10, 0);
        x.piece(2, 4, 3, 0);
        // 10 and -1.75, -3.5, -5.25: each is cut by itself.
        row(x, 0, 2, 9, 7, 5, 3);
        x.set(0, 1, -10);
        x.set(1, 1, -3);
        row(x, 0, 2, -9, -7, -5, -3);
        x.set(1, 3, 4);
        // -10 and 7/16, 28/16, 63/16.
        row(x, 0, 2, -10, -9, -7, -3);
    }

    private static void reverse() {
        RailOffsets x = new RailOffsets();
        x.piece(3, 1, 99, 0);
        x.piece(3, 1, -99, 0);
        x.piece(3, 2, 0, 0);
        row(x, 0, 1, -99, 99, 0, 0);
    }

    private static void sharp() {
        RailOffsets x = new RailOffsets();
        x.piece(1, 1, -99, 0);
        x.piece(4, 20, 99, 0);
        // 198 times 1, 4 and 361 by 400.
        row(x, 0, 2, -99, -98);
        row(x, 0, 20, 79, 99);
        x.set(0, 1, 99);
        x.set(1, 1, -99);
        row(x, 0, 2, 99, 98);
        row(x, 0, 20, -79, -99);
    }

    private static void sharpDividesOnce() {
        RailOffsets x = new RailOffsets();
        x.piece(4, 3, 7, 0);
        // 28 by 9 is 3; 7 times 2 by 3, times 2 by 3 would be 2.
        row(x, 0, 1, 0, 3, 7);
        x.set(0, 1, -7);
        row(x, 0, 1, 0, -3, -7);
    }

    private static void flat() {
        int[][] halves = {{99, 49}, {-99, -49}, {1, 0}, {-1, 0}, {2, 1}, {-2, -1}, {0, 0}, {3, 1}, {-3, -1}};
        for (int[] h : halves) {
            RailOffsets x = new RailOffsets();
            x.piece(5, 2, h[0], 0);
            row(x, 0, 1, h[1], h[1]);
        }
    }

    private static void behindAnEase() {
        RailOffsets x = new RailOffsets();
        x.piece(2, 3, 8, 12);
        x.piece(2, 2, 0, 0);
        x.piece(4, 2, 4, 8);
        // 8, 4, 0; then 0 and 4 times 1 by 4, then 4.
        row(x, 0, 3, 8, 4, 0, 1, 4);
        row(x, 1, 3, 12, 6, 0, 4, 8);
    }

    // ---- heights

    private static void heights() {
        Check.holds("HEIGHT there: CANT, but of an EASE or SHARP", EdgesOfTermsOneTest::heightIsCant);
        Check.holds("HEIGHT of the STATION ahead of the PIECE (0 ahead of all)", EdgesOfTermsOneTest::heightAheadOfAll);
        Check.holds("(CANT less that) times k by n (cut towards 0)", EdgesOfTermsOneTest::heightsAreCut);
        Check.holds("In doubt: the HEIGHT of a SHARP goes as an EASE's", EdgesOfTermsOneTest::heightOfASharp);
    }

    private static void heightIsCant() {
        for (int kind : new int[] {0, 1, 3, 5}) {
            RailOffsets x = new RailOffsets();
            x.piece(0, 1, 0, 160);
            x.piece(kind, 3, 9, 7);
            x.piece(kind, 2, 9, 0);
            row(x, 1, 1, 160, 7, 7, 7, 0, 0);
        }
    }

    private static void heightAheadOfAll() {
        RailOffsets x = new RailOffsets();
        x.piece(2, 4, 0, 160);
        row(x, 1, 1, 40, 80, 120, 160);
        x.set(0, 3, 4);
        row(x, 1, 1, 40, 80, 120, 160);
    }

    private static void heightsAreCut() {
        RailOffsets x = new RailOffsets();
        x.piece(0, 1, 0, 10);
        x.piece(2, 4, 0, 3);
        row(x, 1, 1, 10, 9, 7, 5, 3);
        x.set(0, 2, 3);
        x.set(1, 2, 10);
        row(x, 1, 1, 3, 4, 6, 8, 10);
    }

    private static void heightOfASharp() {
        RailOffsets x = new RailOffsets();
        x.piece(0, 1, 0, 100);
        x.piece(4, 4, 16, 60);
        row(x, 1, 2, 90, 80, 70, 60);
        row(x, 0, 2, 1, 4, 9, 16);
    }

    // ---- turns and offsets

    private static void sums() {
        Check.holds("TURN: VERSINES of all STATIONS up to it; OFFSET: TURNS of all up to it", EdgesOfTermsOneTest::sumsUpTo);
        Check.holds("At STATION 0 all are 0", EdgesOfTermsOneTest::allAreNought);
    }

    private static void sumsUpTo() {
        RailOffsets x = new RailOffsets();
        x.piece(1, 2, 7, 0);
        x.piece(3, 2, 9, 0);
        row(x, 2, 1, 7, 14, 5, -4);
        row(x, 3, 1, 7, 21, 26, 22);
        x.set(0, 0, 1);
        row(x, 2, 1, 7, -2, -11);
        row(x, 3, 1, 7, 5, -6);
    }

    private static void allAreNought() {
        RailOffsets x = new RailOffsets();
        for (int what = 0; what < 4; what++) {
            Check.due("no line", x.at(0, what), 0);
        }
        x.piece(1, 2, 7, 9);
        for (int what = 0; what < 4; what++) {
            Check.due("a line", x.at(0, what), 0);
        }
        Check.due("scaled", x.scaled(0), 0);
    }

    // ---- made

    private static void made() {
        Check.holds("MADE of STRAIGHT 1, and 2 behind it, if LENGTH is 1, then 3", EdgesOfTermsOneTest::madeByLength);
        Check.holds("then of CIRCLE 4, of EASE 5; then of REVERSE 6, SHARP 7, FLAT 8", EdgesOfTermsOneTest::madeByKind);
        Check.holds("(A PIECE is MADE anew, as its KIND, LENGTH, BEND, CANT become others.)", EdgesOfTermsOneTest::madeAnew);
    }

    private static void madeByLength() {
        RailOffsets x = new RailOffsets();
        x.piece(0, 1, 0, 0);
        x.piece(0, 2, 0, 0);
        x.piece(0, 20, 0, 0);
        Check.due("LENGTH 1", x.of(0, 4), 123);
        Check.due("LENGTH 2", x.of(1, 4), 13);
        Check.due("LENGTH 20", x.of(2, 4), 13);
    }

    private static void madeByKind() {
        int[] two = {13, 134, 135, 1346, 1357, 1348};
        int[] one = {123, 1234, 1235, 12346, 12357, 12348};
        RailOffsets x = new RailOffsets();
        for (int kind = 0; kind < 6; kind++) {
            x.piece(kind, 2, 0, 0);
            Check.due("kind " + kind, x.of(kind, 4), two[kind]);
        }
        RailOffsets y = new RailOffsets();
        for (int kind = 0; kind < 6; kind++) {
            y.piece(kind, 1, 0, 0);
            Check.due("kind " + kind + " of LENGTH 1", y.of(kind, 4), one[kind]);
        }
    }

    private static void madeAnew() {
        RailOffsets x = new RailOffsets();
        x.piece(3, 2, 0, 0);
        x.set(0, 0, 1);
        Check.due("another LENGTH", x.of(0, 4), 12346);
        x.set(0, 3, 4);
        Check.due("another KIND", x.of(0, 4), 12357);
        x.set(0, 1, 99);
        x.set(0, 2, 160);
        Check.due("another BEND and CANT", x.of(0, 4), 12357);
        x.set(0, 0, 2);
        Check.due("another LENGTH", x.of(0, 4), 1357);
        x.image();
        x.set(0, 3, 0);
        Check.due("another KIND", x.of(0, 4), 13);
        x.set(0, 0, 0);
        Check.due("a LENGTH that is refused", x.of(0, 4), 13);
        x.back();
        Check.due("as in the image", x.of(0, 4), 1357);
        x.drop();
        x.piece(5, 1, 0, 0);
        Check.due("another piece of the same number", x.of(0, 4), 12348);
    }

    // ---- rules

    private static void rules() {
        Check.holds("0 SCALE (1 .. 1000000; 1 at first)", () -> rule(0, 1, 1000000, 1));
        Check.holds("1 LACK (0 .. 160; 75)", () -> rule(1, 0, 160, 75));
        Check.holds("2 EXCESS (0 .. 160; 75)", () -> rule(2, 0, 160, 75));
        Check.holds("3 RAMP (0 .. 160; 20)", () -> rule(3, 0, 160, 20));
        Check.holds("4 JUMP (0 .. 99; 5)", () -> rule(4, 0, 99, 5));
        Check.holds("5 SPEED (0 .. 200; 60)", () -> rule(5, 0, 200, 60));
        Check.holds("6 END, an OFFSET (-1000000 .. 1000000; 0)", () -> rule(6, -1000000, 1000000, 0));
        Check.holds("7 LEAN, a TURN (-10000 .. 10000; 0)", () -> rule(7, -10000, 10000, 0));
    }

    private static void rule(int rule, int least, int most, int first) {
        RailOffsets x = new RailOffsets();
        for (int v : new int[] {least - 1, most + 1, MIN, MAX}) {
            Check.due("rule(" + rule + ", " + v + ")", x.rule(rule, v), NO);
        }
        Check.due("the least; at first it was", x.rule(rule, least), first);
        Check.due("below the least", x.rule(rule, least - 1), NO);
        Check.due("the most", x.rule(rule, most), least);
        Check.due("above the most", x.rule(rule, most + 1), NO);
        Check.due("the refused did not change it", x.rule(rule, first), most);
    }
}
