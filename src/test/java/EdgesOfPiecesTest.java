/** Promises 1 to 11: each sentence that names an edge, by itself. */
public final class EdgesOfPiecesTest {
    private static final int MIN = Integer.MIN_VALUE, MAX = Integer.MAX_VALUE;
    private static final long NO = RailOffsets.NO;

    public static void main(String[] args) {
        newObjects();
        pieces();
        fields();
        rules();
        stations();
        joins();
        Check.done("EdgesOfPiecesTest");
    }

    private static RailOffsets full() {
        RailOffsets x = new RailOffsets();
        for (int i = 0; i < 10; i++) {
            x.piece(1, i + 1, i, i);
        }
        return x;
    }

    // ---- promise 1

    private static void newObjects() {
        Check.holds("1. No PIECES", EdgesOfPiecesTest::noPieces);
        Check.holds("1. no IMAGE, no SHEETS, an empty TAPE at first", EdgesOfPiecesTest::nothingElse);
        Check.holds("1. an object has nothing of another", EdgesOfPiecesTest::objectsAreApart);
        Check.holds("An object is used for at most 512 calls: so many are answered", EdgesOfPiecesTest::manyCalls);
    }

    private static void noPieces() {
        RailOffsets x = new RailOffsets();
        Check.due("pieces", x.count(0), 0);
        Check.due("stations", x.count(1), 0);
        Check.due("of reverses", x.count(3), 0);
        Check.due("with a height", x.count(4), 0);
        Check.due("of(0, 0)", x.of(0, 0), -1000);
        Check.due("taken(0, 0)", x.taken(0, 0), -2);
        Check.due("set(0, 0, 1)", x.set(0, 0, 1), -1000);
        Check.due("drop", x.drop(), -3);
        Check.due("at(1, 0)", x.at(1, 0), NO);
        Check.due("joins", x.joins(), 0);
        Check.due("unlike", x.alike(-1), 0);
    }

    private static void nothingElse() {
        RailOffsets x = new RailOffsets();
        Check.due("image", x.back(), -3);
        Check.due("tape", x.count(2), 0);
        Check.due("text", x.text(), -100);
        for (int sheet = 0; sheet < 4; sheet++) {
            Check.due("sheet", x.put(sheet, 0, 0), -11);
        }
    }

    private static void objectsAreApart() {
        RailOffsets x = full();
        x.rule(5, 200);
        x.image();
        Check.ints(x, 0, 1, 2, 3);
        Check.feed(x, "drop");
        RailOffsets y = new RailOffsets();
        Check.due("pieces", y.count(0), 0);
        Check.due("tape", y.count(2), 0);
        Check.due("image", y.back(), -3);
        Check.due("sheet", y.put(0, 0, 0), -11);
        Check.due("rule", y.rule(5, 1), 60);
        y.piece(0, 1, 0, 0);
        Check.due("pieces", x.count(0), 10);
        Check.due("rule", x.rule(5, 1), 200);
    }

    private static void manyCalls() {
        RailOffsets x = full();
        x.rule(6, 1000);
        int calls = 11;
        while (calls < 511) {
            Check.due("both at call " + ++calls, x.both(0, 9), -1);
        }
        Check.due("the 512th call", x.piece(0, 1, 0, 0), -4);
    }

    // ---- promises 2 and 3

    private static void pieces() {
        Check.holds("2. A PIECE comes: its number", EdgesOfPiecesTest::itsNumber);
        Check.holds("2. BAD: a number is none such", EdgesOfPiecesTest::badPieces);
        Check.holds("2. FULL", EdgesOfPiecesTest::fullLine);
        Check.holds("2. BAD; FULL: BAD is told ahead of FULL", EdgesOfPiecesTest::badAheadOfFull);
        Check.holds("3. The latest PIECE is none any more", EdgesOfPiecesTest::theLatestGoes);
        Check.holds("3. how many there are: from 9 down to 0", EdgesOfPiecesTest::howManyAreLeft);
        Check.holds("3. STATE: none", EdgesOfPiecesTest::dropOfNone);
    }

    private static void itsNumber() {
        RailOffsets x = new RailOffsets();
        for (int i = 0; i < 10; i++) {
            Check.due("piece", x.piece(i % 6, 20, 99, 160), i);
            Check.due("count", x.count(0), i + 1);
        }
    }

    private static void badPieces() {
        RailOffsets x = new RailOffsets();
        int[][] bad = {{-1, 1, 0, 0}, {6, 1, 0, 0}, {MIN, 1, 0, 0}, {MAX, 1, 0, 0}, {0, 0, 0, 0}, {0, 21, 0, 0},
            {0, MIN, 0, 0}, {0, MAX, 0, 0}, {0, 1, -100, 0}, {0, 1, 100, 0}, {0, 1, MIN, 0}, {0, 1, MAX, 0},
            {0, 1, 0, -1}, {0, 1, 0, 161}, {0, 1, 0, MIN}, {0, 1, 0, MAX}, {6, 0, 100, 161}};
        for (int[] b : bad) {
            Check.due(new Call("piece", b).toString(), x.piece(b[0], b[1], b[2], b[3]), -2);
            Check.due("count", x.count(0), 0);
        }
        Check.due("the first is still to come", x.piece(5, 20, -99, 160), 0);
    }

    private static void fullLine() {
        RailOffsets x = full();
        Check.due("an eleventh", x.piece(0, 1, 0, 0), -4);
        Check.due("count", x.count(0), 10);
        Check.due("stations", x.count(1), 55);
        Check.due("of the tenth", x.of(9, 0), 1);
        Check.due("drop", x.drop(), 9);
        Check.due("there is room", x.piece(0, 1, 0, 0), 9);
        Check.due("and none again", x.piece(0, 1, 0, 0), -4);
    }

    private static void badAheadOfFull() {
        RailOffsets x = full();
        Check.due("kind", x.piece(6, 1, 0, 0), -2);
        Check.due("kind", x.piece(-1, 1, 0, 0), -2);
        Check.due("length", x.piece(0, 0, 0, 0), -2);
        Check.due("length", x.piece(0, 21, 0, 0), -2);
        Check.due("bend", x.piece(0, 1, 100, 0), -2);
        Check.due("bend", x.piece(0, 1, -100, 0), -2);
        Check.due("cant", x.piece(0, 1, 0, 161), -2);
        Check.due("cant", x.piece(0, 1, 0, -1), -2);
        Check.due("a good one", x.piece(0, 1, 0, 0), -4);
    }

    private static void theLatestGoes() {
        RailOffsets x = new RailOffsets();
        x.piece(1, 2, 3, 4);
        x.piece(3, 5, 6, 7);
        Check.due("drop", x.drop(), 1);
        Check.due("the first stands", x.of(0, 0), 1);
        Check.due("the latest is none", x.of(1, 0), -1000);
        Check.due("its stations are none", x.at(3, 0), NO);
        Check.due("those ahead stand", x.at(2, 3), 9);
        Check.due("stations", x.count(1), 2);
        Check.due("of reverses", x.count(3), 0);
        Check.due("joins", x.join(0, 0), -2);
        x.piece(2, 2, 7, 0);
        Check.due("nothing is left of it", x.at(3, 0), 5);
        Check.due("nothing is left of it", x.of(1, 3), 0);
    }

    private static void howManyAreLeft() {
        RailOffsets x = full();
        for (int i = 9; i >= 0; i--) {
            Check.due("drop", x.drop(), i);
            Check.due("count", x.count(0), i);
            Check.due("stations", x.count(1), i * (i + 1) / 2);
        }
    }

    private static void dropOfNone() {
        RailOffsets x = new RailOffsets();
        Check.due("at first", x.drop(), -3);
        x.piece(0, 1, 0, 0);
        Check.due("one", x.drop(), 0);
        Check.due("none", x.drop(), -3);
        Check.due("none", x.drop(), -3);
        Check.due("the next is the first", x.piece(0, 1, 0, 0), 0);
    }

    // ---- promises 4 to 6

    private static void fields() {
        Check.holds("4. LENGTH (what 0), BEND (1), CANT (2), KIND (3) becomes v: what it was", EdgesOfPiecesTest::setTells);
        Check.holds("4. -1000: piece", EdgesOfPiecesTest::setOfNoPiece);
        Check.holds("4. -1000: what", EdgesOfPiecesTest::setOfNoWhat);
        Check.holds("4. -1000: v", EdgesOfPiecesTest::setToNoneSuch);
        Check.holds("4. set becomes the line: stations behind it go along", EdgesOfPiecesTest::setMovesAll);
        Check.holds("5. KIND (what 0) .. MADE (4)", EdgesOfPiecesTest::ofTells);
        Check.holds("5. its first STATION (5), its last one (6)", EdgesOfPiecesTest::firstAndLast);
        Check.holds("5. -1000: piece", EdgesOfPiecesTest::ofNoPiece);
        Check.holds("5. -1000: what", EdgesOfPiecesTest::ofNoWhat);
        Check.holds("6. taken for one of KIND k, or one under that: its LENGTH; -13", EdgesOfPiecesTest::takenFor);
        Check.holds("6. BAD", EdgesOfPiecesTest::takenBad);
    }

    private static void setTells() {
        RailOffsets x = new RailOffsets();
        x.piece(1, 2, -3, 4);
        x.piece(0, 1, 0, 0);
        int[] was = {2, -3, 4, 1};
        int[] least = {1, -99, 0, 0};
        int[] most = {20, 99, 160, 5};
        for (int what = 0; what < 4; what++) {
            Check.due("to the least", x.set(0, what, least[what]), was[what]);
            Check.due("to the most", x.set(0, what, most[what]), least[what]);
            Check.due("to the same", x.set(0, what, most[what]), most[what]);
        }
        int[] now = {5, 20, 99, 160};
        for (int what = 0; what < 4; what++) {
            Check.due("of", x.of(0, what), now[what]);
        }
        Check.due("the other stands", x.of(1, 1), 1);
    }

    private static void setOfNoPiece() {
        RailOffsets x = new RailOffsets();
        Check.due("no pieces", x.set(0, 0, 1), -1000);
        x.piece(0, 1, 0, 0);
        for (int piece : new int[] {-1, 1, 2, 9, 10, MIN, MAX}) {
            for (int what = 0; what < 4; what++) {
                Check.due("set(" + piece + ", " + what + ", 1)", x.set(piece, what, 1), -1000);
            }
        }
        RailOffsets y = full();
        Check.due("the tenth", y.set(9, 0, 1), 10);
        Check.due("the eleventh", y.set(10, 0, 1), -1000);
        y.drop();
        Check.due("the dropped", y.set(9, 0, 1), -1000);
    }

    private static void setOfNoWhat() {
        RailOffsets x = new RailOffsets();
        x.piece(1, 1, 1, 1);
        for (int what : new int[] {-1, 4, 5, MIN, MAX}) {
            Check.due("set(0, " + what + ", 1)", x.set(0, what, 1), -1000);
            Check.due("set(0, " + what + ", 0)", x.set(0, what, 0), -1000);
        }
    }

    private static void setToNoneSuch() {
        RailOffsets x = new RailOffsets();
        x.piece(1, 2, 3, 4);
        int[][] bad = {{0, 0}, {0, 21}, {1, -100}, {1, 100}, {2, -1}, {2, 161}, {3, -1}, {3, 6}};
        for (int[] b : bad) {
            Check.due("set(0, " + b[0] + ", " + b[1] + ")", x.set(0, b[0], b[1]), -1000);
        }
        for (int what = 0; what < 4; what++) {
            Check.due("set to MIN", x.set(0, what, MIN), -1000);
            Check.due("set to MAX", x.set(0, what, MAX), -1000);
        }
        int[] want = {1, 2, 3, 4};
        for (int what = 0; what < 4; what++) {
            Check.due("of", x.of(0, what), want[what]);
        }
    }

    private static void setMovesAll() {
        RailOffsets x = full();
        Check.due("length", x.set(0, 0, 20), 1);
        Check.due("stations", x.count(1), 74);
        Check.due("the last one's first", x.of(9, 5), 65);
        Check.due("a versine", x.at(65, 0), 9);
        x.set(9, 3, 2);
        Check.due("an ease from 8", x.at(65, 0), 8);
        x.set(8, 1, -1);
        Check.due("an ease from -1", x.at(65, 0), 0);
        x.set(8, 2, 29);
        Check.due("heights from 29", x.at(65, 1), 27);
    }

    private static void ofTells() {
        RailOffsets x = new RailOffsets();
        x.piece(5, 20, -99, 160);
        x.piece(0, 1, 99, 0);
        int[][] want = {{5, 20, -99, 160, 1348}, {0, 1, 99, 0, 123}};
        for (int piece = 0; piece < 2; piece++) {
            for (int what = 0; what < 5; what++) {
                Check.due("of(" + piece + ", " + what + ")", x.of(piece, what), want[piece][what]);
            }
        }
    }

    private static void firstAndLast() {
        RailOffsets x = new RailOffsets();
        int[] lengths = {1, 20, 1, 2, 20, 20, 20, 20, 20, 20};
        int first = 1;
        for (int i = 0; i < 10; i++) {
            x.piece(i % 6, lengths[i], 0, 0);
            Check.due("first of " + i, x.of(i, 5), first);
            Check.due("last of " + i, x.of(i, 6), first + lengths[i] - 1);
            first += lengths[i];
        }
        x.set(0, 0, 5);
        Check.due("first of 9", x.of(9, 5), 129);
        Check.due("last of 9", x.of(9, 6), 148);
    }

    private static void ofNoPiece() {
        RailOffsets x = full();
        for (int piece : new int[] {-1, 10, MIN, MAX}) {
            for (int what = 0; what < 7; what++) {
                Check.due("of(" + piece + ", " + what + ")", x.of(piece, what), -1000);
            }
        }
        x.drop();
        Check.due("the dropped", x.of(9, 0), -1000);
        Check.due("the one ahead", x.of(8, 0), 1);
    }

    private static void ofNoWhat() {
        RailOffsets x = full();
        Check.due("the last what", x.of(0, 6), 1);
        for (int what : new int[] {-1, 7, MIN, MAX}) {
            Check.due("of(0, " + what + ")", x.of(0, what), -1000);
        }
    }

    private static void takenFor() {
        int[][] under = {{0}, {0, 1}, {0, 2}, {0, 1, 3}, {0, 2, 4}, {0, 1, 5}};
        RailOffsets x = new RailOffsets();
        for (int kind = 0; kind < 6; kind++) {
            x.piece(kind, kind + 1, 0, 0);
            for (int k = 0; k < 6; k++) {
                long want = -13;
                for (int u : under[kind]) {
                    want = u == k ? kind + 1 : want;
                }
                Check.due("taken(" + kind + ", " + k + ")", x.taken(kind, k), want);
            }
        }
        x.set(0, 3, 4);
        x.set(0, 0, 20);
        Check.due("of another kind now", x.taken(0, 2), 20);
    }

    private static void takenBad() {
        RailOffsets x = full();
        for (int k : new int[] {-1, 6, MIN, MAX}) {
            Check.due("taken(0, " + k + ")", x.taken(0, k), -2);
        }
        for (int piece : new int[] {-1, 10, MIN, MAX}) {
            Check.due("taken(" + piece + ", 0)", x.taken(piece, 0), -2);
            // Of no piece none is of another KIND: BAD, not -13.
            Check.due("taken(" + piece + ", 5)", x.taken(piece, 5), -2);
        }
        Check.due("the tenth", x.taken(9, 1), 10);
        Check.due("the tenth", x.taken(9, 5), -13);
        x.drop();
        Check.due("the dropped", x.taken(9, 5), -2);
    }

    // ---- promise 7

    private static void rules() {
        Check.holds("7. A RULE becomes v: what it was", EdgesOfPiecesTest::ruleTells);
        Check.holds("7. NO: rule", EdgesOfPiecesTest::noSuchRule);
        Check.holds("7. NO: v", EdgesOfPiecesTest::ruleToNoneSuch);
    }

    private static void ruleTells() {
        RailOffsets x = new RailOffsets();
        Check.due("first", x.rule(6, -1000000), 0);
        Check.due("below 0", x.rule(6, -1), -1000000);
        Check.due("-1", x.rule(6, 1000000), -1);
        Check.due("the same", x.rule(6, 1000000), 1000000);
        for (int r = 0; r < 6; r++) {
            x.rule(r, 11 + r);
        }
        for (int r = 0; r < 6; r++) {
            Check.due("each has its own", x.rule(r, 1), 11 + r);
        }
        Check.due("the seventh stands", x.rule(6, 0), 1000000);
        Check.due("the eighth stands", x.rule(7, 0), 0);
    }

    private static void noSuchRule() {
        RailOffsets x = new RailOffsets();
        for (int rule : new int[] {-1, 8, 9, MIN, MAX}) {
            Check.due("rule(" + rule + ", 1)", x.rule(rule, 1), NO);
            Check.due("rule(" + rule + ", 0)", x.rule(rule, 0), NO);
        }
    }

    private static void ruleToNoneSuch() {
        RailOffsets x = new RailOffsets();
        Check.due("a SCALE of 0", x.rule(0, 0), NO);
        Check.due("a SCALE below 0", x.rule(0, -1), NO);
        for (int rule = 1; rule < 6; rule++) {
            Check.due("below 0", x.rule(rule, -1), NO);
        }
        Check.due("a JUMP of 100", x.rule(4, 100), NO);
        Check.due("a SPEED of 201", x.rule(5, 201), NO);
        Check.due("it stands", x.rule(5, 0), 60);
    }

    // ---- promises 8 and 9

    private static void stations() {
        Check.holds("8. VERSINE (what 0), HEIGHT (1), TURN (2), OFFSET (3), PIECE (4)", EdgesOfPiecesTest::atTells);
        Check.holds("8. NO: no such STATION", EdgesOfPiecesTest::noSuchStation);
        Check.holds("8. (0 is one but for 4)", EdgesOfPiecesTest::stationNought);
        Check.holds("8. NO: what", EdgesOfPiecesTest::atNoWhat);
        Check.holds("9. OFFSET times SCALE, an int", EdgesOfPiecesTest::scaledToTheEdge);
        Check.holds("9. NO: it is none of ints", EdgesOfPiecesTest::scaledBeyond);
        Check.holds("9. NO: no such STATION", EdgesOfPiecesTest::scaledNowhere);
    }

    private static void atTells() {
        RailOffsets x = new RailOffsets();
        x.piece(1, 1, -9, 160);
        x.piece(1, 1, 5, 0);
        long[][] want = {{-9, 160, -9, -9, 0}, {5, 0, -4, -13, 1}};
        for (int s = 1; s <= 2; s++) {
            for (int what = 0; what < 5; what++) {
                Check.due("at(" + s + ", " + what + ")", x.at(s, what), want[s - 1][what]);
            }
        }
    }

    private static void noSuchStation() {
        RailOffsets x = new RailOffsets();
        Check.due("1 of none", x.at(1, 0), NO);
        x.piece(1, 2, 3, 4);
        Check.due("the last", x.at(2, 3), 9);
        for (int s : new int[] {-1, 3, 201, MIN, MAX}) {
            for (int what = 0; what < 5; what++) {
                Check.due("at(" + s + ", " + what + ")", x.at(s, what), NO);
            }
        }
        x.set(0, 0, 1);
        Check.due("the second is none any more", x.at(2, 0), NO);
    }

    private static void stationNought() {
        RailOffsets x = new RailOffsets();
        for (int round = 0; round < 2; round++) {
            for (int what = 0; what < 4; what++) {
                Check.due("at(0, " + what + ")", x.at(0, what), 0);
            }
            Check.due("at(0, 4)", x.at(0, 4), NO);
            x.piece(1, 2, 3, 4);
        }
    }

    private static void atNoWhat() {
        RailOffsets x = new RailOffsets();
        x.piece(1, 2, 3, 4);
        for (int what : new int[] {-1, 5, MIN, MAX}) {
            Check.due("at(0, " + what + ")", x.at(0, what), NO);
            Check.due("at(1, " + what + ")", x.at(1, what), NO);
        }
    }

    private static void scaledToTheEdge() {
        RailOffsets x = new RailOffsets();
        x.piece(1, 20, 10, 0);
        x.piece(1, 1, 87, 0);
        x.rule(0, 899658);
        Check.due("2387 times 899658", x.scaled(21), 2147483646L);
        x.set(0, 1, -10);
        x.set(1, 1, -87);
        Check.due("and to the other side", x.scaled(21), -2147483646L);
        // 20 stations of -18 lead to -3780, with a turn of -360; 44 more lead to -4096.
        x.set(0, 1, -18);
        x.set(1, 1, 44);
        x.rule(0, 524288);
        Check.due("-4096 times 524288", x.scaled(21), MIN);
        x.rule(0, 1);
        Check.due("the least SCALE", x.scaled(21), -4096);
        Check.due("at the first", x.scaled(1), -18);
        Check.due("at 0", x.scaled(0), 0);
    }

    private static void scaledBeyond() {
        RailOffsets x = new RailOffsets();
        x.piece(1, 20, 18, 0);
        x.piece(1, 1, -44, 0);
        x.rule(0, 524288);
        Check.due("4096 times 524288", x.scaled(21), NO);
        x.set(1, 1, -45);
        Check.due("4095 times 524288", x.scaled(21), 2146959360L);
        x.set(0, 1, -18);
        x.set(1, 1, 43);
        Check.due("-4097 times 524288", x.scaled(21), NO);
        // 8192 times 524288 would be 0 as an int, 12288 times it the least int.
        x.set(0, 1, 36);
        x.set(1, 1, -88);
        Check.due("offset", x.at(21, 3), 8192);
        Check.due("twice around", x.scaled(21), NO);
        x.set(0, 1, 99);
        x.set(0, 0, 20);
        x.set(1, 0, 20);
        x.set(1, 1, 99);
        x.rule(0, 1000000);
        Check.due("81180 times a million", x.scaled(40), NO);
    }

    private static void scaledNowhere() {
        RailOffsets x = new RailOffsets();
        Check.due("scaled(0)", x.scaled(0), 0);
        Check.due("scaled(1)", x.scaled(1), NO);
        x.piece(1, 2, 3, 4);
        Check.due("the last", x.scaled(2), 9);
        for (int s : new int[] {-1, 3, MIN, MAX}) {
            Check.due("scaled(" + s + ")", x.scaled(s), NO);
        }
    }

    // ---- promises 10 and 11

    private static void joins() {
        Check.holds("10. VERSINES (what 0), HEIGHTS (1), whether it JUMPS (2; 1, 0)", EdgesOfPiecesTest::joinTells);
        Check.holds("10. BAD: no such JOIN", EdgesOfPiecesTest::noSuchJoin);
        Check.holds("10. BAD: what", EdgesOfPiecesTest::joinOfNoWhat);
        Check.holds("11. JOINS that JUMP (bits of i)", EdgesOfPiecesTest::bitsOfJoins);
    }

    private static void joinTells() {
        RailOffsets x = new RailOffsets();
        x.piece(1, 2, 5, 20);
        x.piece(1, 2, -1, 0);
        x.piece(1, 2, -6, 21);
        x.piece(1, 2, -6, 41);
        int[][] want = {{6, 20, 1}, {5, 21, 1}, {0, 20, 0}};
        for (int i = 0; i < 3; i++) {
            for (int what = 0; what < 3; what++) {
                Check.due("join(" + i + ", " + what + ")", x.join(i, what), want[i][what]);
            }
        }
    }

    private static void noSuchJoin() {
        RailOffsets x = new RailOffsets();
        for (int what = 0; what < 3; what++) {
            Check.due("no pieces", x.join(0, what), -2);
            Check.due("no pieces", x.join(-1, what), -2);
        }
        x.piece(0, 1, 0, 0);
        Check.due("one piece", x.join(0, 0), -2);
        Check.due("one piece", x.join(-1, 0), -2);
        x.piece(0, 1, 0, 0);
        Check.due("two pieces", x.join(0, 0), 0);
        Check.due("two pieces", x.join(1, 0), -2);
        RailOffsets y = full();
        Check.due("ten pieces", y.join(8, 0), 1);
        for (int i : new int[] {-1, 9, 10, MIN, MAX}) {
            for (int what = 0; what < 3; what++) {
                Check.due("join(" + i + ", " + what + ")", y.join(i, what), -2);
            }
        }
    }

    private static void joinOfNoWhat() {
        RailOffsets x = full();
        for (int what : new int[] {-1, 3, MIN, MAX}) {
            Check.due("join(0, " + what + ")", x.join(0, what), -2);
        }
    }

    private static void bitsOfJoins() {
        RailOffsets x = new RailOffsets();
        Check.due("no pieces", x.joins(), 0);
        x.piece(1, 1, 99, 160);
        Check.due("one piece: what is ahead of it is no join", x.joins(), 0);
        for (int i = 1; i < 10; i++) {
            x.piece(1, 1, i % 2 == 0 ? 99 : -99, 160);
        }
        Check.due("all nine", x.joins(), 511);
        for (int i = 0; i < 10; i++) {
            x.set(i, 1, 0);
        }
        Check.due("none", x.joins(), 0);
        x.set(9, 1, 6);
        Check.due("the last", x.joins(), 256);
        x.set(0, 1, 6);
        Check.due("the first and the last", x.joins(), 257);
        x.set(0, 1, 0);
        x.set(4, 2, 139);
        Check.due("by heights, to both sides", x.joins(), 256 + 8 + 16);
        x.drop();
        Check.due("the last is gone", x.joins(), 8 + 16);
        x.piece(1, 1, 5, 160);
        Check.due("and does not jump anew", x.joins(), 8 + 16);
    }
}
