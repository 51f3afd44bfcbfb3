/** Promises 26 to 36: each sentence that names an edge, by itself. */
public final class EdgesOfHostTest {
    private static final int MIN = Integer.MIN_VALUE, MAX = Integer.MAX_VALUE;

    public static void main(String[] args) {
        tells();
        films();
        tapes();
        images();
        loads();
        counts();
        sheets();
        puts();
        copies();
        Check.done("EdgesOfHostTest");
    }

    private static RailOffsets full() {
        RailOffsets x = new RailOffsets();
        for (int i = 0; i < 10; i++) {
            x.piece(1, 20, i, 0);
        }
        return x;
    }

    /** What a sheet holds, seen from a straight line of as many stations; so numbers are -999 .. 999 here. */
    private static void holds(RailOffsets x, int sheet, int... want) {
        Check.due("a number more", x.put(sheet, want.length, 0), -12);
        long turn = 0;
        long offset = 0;
        for (int s = 1; s <= want.length; s++) {
            turn += want[s - 1];
            offset += turn;
            Check.due("slew(" + sheet + ", " + s + ")", x.slew(sheet, s), offset - x.at(s, 3));
        }
    }

    // ---- promise 26

    private static void tells() {
        Check.holds("26. from STATION f on (1 .. 200)", EdgesOfHostTest::tellsFromF);
        Check.holds("26. the first (piece NONE; NONE), KINDS of a PIECE", EdgesOfHostTest::tellsFirstOrKinds);
        Check.holds("26. BAD: SHEET", EdgesOfHostTest::tellsNoSheet);
        Check.holds("26. BAD: piece", EdgesOfHostTest::tellsNoPiece);
        Check.holds("26. -11", EdgesOfHostTest::tellsMissing);
        Check.holds("26. BAD: it tells more than 8", EdgesOfHostTest::tellsNine);
        Check.holds("26. BAD ahead of -11; -11 ahead of more than 8", EdgesOfHostTest::tellsInOrder);
    }

    private static void tellsFromF() {
        RailOffsets x = full();
        Check.ints(x, 0, 0);
        Check.due("f 1", x.tells(0, 1, -1), -1);
        Check.due("f 200", x.tells(0, 200, -1), 0);
        x.put(0, 0, 9);
        Check.due("f 200", x.tells(0, 200, -1), -1);
        Check.due("f 200, by its PIECE", x.tells(0, 200, 9), 2 + 4 + 16);
        for (int f : new int[] {0, -1, 201, MIN, MAX}) {
            Check.due("f " + f, x.tells(0, f, -1), -2);
            Check.due("f " + f, x.tells(0, f, 0), -2);
        }
    }

    private static void tellsFirstOrKinds() {
        RailOffsets x = Scene.one(1, 3, 4);
        Check.ints(x, 0, 4, 4, 4);
        Check.due("all are so", x.tells(0, 1, -1), -1);
        Check.due("a CIRCLE", x.tells(0, 1, 0), 2);
        Check.ints(x, 0, 4, 4, 5);
        Check.due("the third", x.tells(0, 1, -1), 2);
        Check.due("by none", x.tells(0, 1, 0), 0);
    }

    private static void tellsNoSheet() {
        RailOffsets x = Scene.one(1, 3, 4);
        for (int sheet : new int[] {-1, 4, MIN, MAX}) {
            Check.due("tells(" + sheet + ", 1, -1)", x.tells(sheet, 1, -1), -2);
            Check.due("tells(" + sheet + ", 1, 0)", x.tells(sheet, 1, 0), -2);
        }
    }

    private static void tellsNoPiece() {
        RailOffsets x = new RailOffsets();
        Check.ints(x, 0);
        Check.due("no pieces", x.tells(0, 1, 0), -2);
        Check.due("none is asked", x.tells(0, 1, -1), -1);
        x.piece(0, 1, 0, 0);
        Check.due("the first", x.tells(0, 1, 0), 63);
        for (int piece : new int[] {-2, 1, 10, MIN, MAX}) {
            Check.due("tells(0, 1, " + piece + ")", x.tells(0, 1, piece), -2);
        }
    }

    private static void tellsMissing() {
        RailOffsets x = Scene.one(0, 1, 0);
        for (int sheet = 0; sheet < 4; sheet++) {
            Check.due("no piece", x.tells(sheet, 1, -1), -11);
            Check.due("a piece", x.tells(sheet, 200, 0), -11);
        }
    }

    private static void tellsNine() {
        RailOffsets x = full();
        x.film(0, 20, 8);
        Check.due("eight", x.tells(0, 20, -1), -1);
        x.film(0, 20, 9);
        Check.due("nine", x.tells(0, 20, -1), -2);
        Check.due("nine", x.tells(0, 20, 0), -2);
        x.sheet(1, 0, 40);
        Check.due("forty", x.tells(1, 1, -1), -2);
    }

    private static void tellsInOrder() {
        RailOffsets x = Scene.one(0, 1, 0);
        Check.due("f 0, missing", x.tells(0, 0, -1), -2);
        Check.due("f 201, missing", x.tells(0, 201, -1), -2);
        Check.due("no such PIECE, missing", x.tells(0, 1, 1), -2);
        Check.due("missing", x.tells(0, 1, 0), -11);
    }

    // ---- promise 27

    private static void films() {
        Check.holds("27. A SHEET truly becomes VERSINES, whatever it was", EdgesOfHostTest::filmTruly);
        Check.holds("27. from f on (1 .. 200)", EdgesOfHostTest::filmFromF);
        Check.holds("27. n of them (0 .. 40; ..): n", EdgesOfHostTest::filmOfN);
        Check.holds("27. shorts", EdgesOfHostTest::filmOfShorts);
        Check.holds("27. behind the last one 0", EdgesOfHostTest::filmBehind);
        Check.holds("27. BAD: SHEET, f, n", EdgesOfHostTest::filmBad);
    }

    private static void filmTruly() {
        RailOffsets x = Scene.one(2, 3, -9);
        Check.due("missing", x.film(3, 1, 3), 3);
        Check.due("it tells them", x.tells(3, 1, -1), -1);
        Check.ints(x, 2, 100000, 5, 6, 7, 8);
        Check.due("ints, more", x.film(2, 2, 2), 2);
        Check.due("it tells them", x.tells(2, 2, -1), -1);
        holds(x, 2, -6, -9);
        Check.due("and keeps them", x.set(0, 1, 9), -9);
        holds(x, 2, -6, -9);
    }

    private static void filmFromF() {
        RailOffsets x = full();
        x.film(0, 1, 1);
        Check.due("f 1", x.tells(0, 1, -1), -1);
        x.film(0, 200, 1);
        Check.due("f 200", x.tells(0, 200, -1), -1);
        x.film(0, 181, 1);
        Check.due("of the tenth", x.tells(0, 200, -1), -1);
        x.film(0, 180, 2);
        Check.due("of two", x.tells(0, 180, -1), -1);
        Check.due("of two", x.tells(0, 181, -1), 0);
    }

    private static void filmOfN() {
        RailOffsets x = full();
        Check.due("none", x.film(0, 1, 0), 0);
        Check.due("it has none", x.put(0, 0, 1), -12);
        Check.due("it is there", x.tells(0, 1, -1), -1);
        Check.due("one", x.film(0, 1, 1), 1);
        Check.due("it has one", x.put(0, 0, 1), 1);
        Check.due("it has one", x.put(0, 1, 1), -12);
        Check.due("forty", x.film(0, 21, 40), 40);
        Check.due("it has forty", x.put(0, 40, 1), -12);
        Check.due("the fortieth: of station 60", x.copy(0, 39, 0, 0, 1), 1);
        Check.due("copied behind it", x.copy(0, 20, 0, 1, 1), 1);
        // 2 of station 60, 2 of station 41, against 0, 0 of the first two.
        Check.due("slew", x.slew(0, 2), 6);
        Check.due("forty at the end", x.film(0, 161, 40), 40);
        Check.due("the fortieth", x.put(0, 39, 1), 1);
    }

    private static void filmOfShorts() {
        RailOffsets x = Scene.one(1, 2, -99);
        Check.ints(x, 0, 1);
        x.film(0, 1, 2);
        Check.due("shorts", x.load(0, 0, 0, 0), 0);
        Check.due("no ints", x.load(0, 1, 0, 0), -13);
        Check.due("below 0", x.slew(0, 2), 0);
        x.put(0, 0, 65536 + 7);
        Check.due("of 16 bits", x.slew(0, 1), 106);
    }

    private static void filmBehind() {
        RailOffsets x = Scene.one(1, 2, 5);
        Check.ints(x, 0, 9, 9, 9, 9, 9);
        x.film(0, 2, 4);
        x.set(0, 0, 4);
        x.set(0, 3, 0);
        holds(x, 0, 5, 0, 0, 0);
        RailOffsets y = new RailOffsets();
        Check.ints(y, 0, 9, 9);
        y.film(0, 200, 2);
        y.piece(0, 2, 0, 0);
        holds(y, 0, 0, 0);
        // Versines of a longer line are not there any more.
        y.set(0, 0, 20);
        y.set(0, 3, 1);
        y.set(0, 1, 7);
        y.set(0, 0, 1);
        y.film(0, 1, 3);
        y.set(0, 0, 3);
        y.set(0, 3, 0);
        holds(y, 0, 7, 0, 0);
    }

    private static void filmBad() {
        RailOffsets x = Scene.one(1, 2, 5);
        Check.ints(x, 0, 3);
        int[][] bad = {{-1, 1, 1}, {4, 1, 1}, {MIN, 1, 1}, {MAX, 1, 1}, {0, 0, 1}, {0, -1, 1}, {0, 201, 1}, {0, MIN, 1},
            {0, MAX, 1}, {0, 1, -1}, {0, 1, 41}, {0, 1, MIN}, {0, 1, MAX}};
        for (int[] b : bad) {
            Check.due(new Call("film", b).toString(), x.film(b[0], b[1], b[2]), -2);
        }
        Check.due("it is as it was", x.slew(0, 1), -2);
        Check.due("it is of ints", x.load(0, 1, 0, 0), 0);
    }

    // ---- promises 28 and 29

    private static void tapes() {
        Check.holds("28. n bytes (1 .. 5)", EdgesOfHostTest::feedOfN);
        Check.holds("28. all 0 .. 255, also those that are not asked", EdgesOfHostTest::feedOfBytes);
        Check.holds("28. come behind THE TAPE: how many it has", EdgesOfHostTest::feedBehind);
        Check.holds("28. FULL: they have no room", EdgesOfHostTest::feedFull);
        Check.holds("28. BAD; FULL: BAD is told ahead of FULL", EdgesOfHostTest::feedBadAheadOfFull);
        Check.holds("29. THE TAPE, which is empty then (by a FAULT, too)", EdgesOfHostTest::textEmpties);
        Check.holds("29. how many CLAUSES were done; -100 less the place of its FAULT", EdgesOfHostTest::textTells);
    }

    private static void feedOfN() {
        RailOffsets x = new RailOffsets();
        Check.due("one", x.feed(1, 1, 2, 3, 4, 5), 1);
        Check.due("five", x.feed(5, 1, 2, 3, 4, 5), 6);
        for (int n : new int[] {0, 6, -1, MIN, MAX}) {
            Check.due("n " + n, x.feed(n, 1, 2, 3, 4, 5), -2);
        }
        Check.due("count", x.count(2), 6);
    }

    private static void feedOfBytes() {
        for (int which = 0; which < 5; which++) {
            for (int v : new int[] {0, 255, -1, 256, MIN, MAX}) {
                for (int n = 1; n <= 5; n++) {
                    RailOffsets x = new RailOffsets();
                    int[] b = {1, 1, 1, 1, 1};
                    b[which] = v;
                    boolean good = v == 0 || v == 255;
                    Check.due("feed with " + v, x.feed(n, b[0], b[1], b[2], b[3], b[4]), good ? n : -2);
                    Check.due("count", x.count(2), good ? n : 0);
                }
            }
        }
    }

    private static void feedBehind() {
        RailOffsets x = Scene.one(0, 1, 0);
        // Each of the five has its place: speed and 9;drop.
        Check.due("first", x.feed(5, 's', 'p', 'e', 'e', 'd'), 5);
        Check.due("then", x.feed(2, '9', ';', 'x', 'x', 'x'), 7);
        Check.due("then", x.feed(4, 'd', 'r', 'o', 'p', 'x'), 11);
        Check.due("count", x.count(2), 11);
        Check.due("text", x.text(), 2);
        Check.due("speed", x.rule(5, 60), 9);
        Check.due("pieces", x.count(0), 0);
    }

    private static void feedFull() {
        for (int n = 1; n <= 5; n++) {
            RailOffsets x = new RailOffsets();
            int size = 0;
            while (size + n <= 60) {
                size += n;
                Check.due("feed", x.feed(n, 59, 59, 59, 59, 59), size);
            }
            Check.due("no room", x.feed(n, 59, 59, 59, 59, 59), -4);
            Check.due("count", x.count(2), size);
        }
        RailOffsets x = new RailOffsets();
        for (int i = 1; i <= 58; i++) {
            x.feed(1, 32, 0, 0, 0, 0);
        }
        Check.due("three have no room", x.feed(3, 32, 32, 32, 32, 32), -4);
        Check.due("none of them came", x.count(2), 58);
        Check.due("two have", x.feed(2, 32, 32, 32, 32, 32), 60);
        Check.due("one has none", x.feed(1, 32, 32, 32, 32, 32), -4);
        Check.due("text", x.text(), -160);
        Check.due("five have room", x.feed(5, 32, 32, 32, 32, 32), 5);
    }

    private static void feedBadAheadOfFull() {
        RailOffsets x = new RailOffsets();
        for (int i = 0; i < 12; i++) {
            x.feed(5, 32, 32, 32, 32, 32);
        }
        Check.due("full", x.feed(1, 32, 32, 32, 32, 32), -4);
        Check.due("n", x.feed(0, 32, 32, 32, 32, 32), -2);
        Check.due("n", x.feed(6, 32, 32, 32, 32, 32), -2);
        Check.due("a", x.feed(1, 256, 32, 32, 32, 32), -2);
        Check.due("e, not asked", x.feed(1, 32, 32, 32, 32, -1), -2);
    }

    private static void textEmpties() {
        RailOffsets x = Scene.one(0, 1, 0);
        Check.due("done", Check.told(x, "speed 9"), 1);
        Check.due("empty", x.count(2), 0);
        Check.due("refused", Check.told(x, "speed 201"), 0);
        Check.due("empty", x.count(2), 0);
        Check.due("a fault", Check.told(x, "speed 9;"), -108);
        Check.due("empty", x.count(2), 0);
        Check.due("empty, a text that ends too early", x.text(), -100);
        Check.due("all sixty have room", Check.told(x, "x                                                          x"), -100);
        Check.due("empty", x.count(2), 0);
    }

    private static void textTells() {
        RailOffsets x = Scene.one(0, 1, 0);
        Check.due("none of one", Check.told(x, "speed 201"), 0);
        Check.due("one of one", Check.told(x, "speed 200"), 1);
        Check.due("two of three", Check.told(x, "speed 1;speed 201;speed 2"), 2);
        Check.due("at place 0", Check.told(x, "x"), -100);
        Check.due("at place 1", Check.told(x, " x"), -101);
        Check.due("at place 59", Check.told(x, "drop                                                       ."), -159);
        Check.due("at place 60", Check.told(x, "drop                                                       ;"), -160);
        Check.due("the piece is still there", x.count(0), 1);
    }

    // ---- promises 30 and 31

    private static void images() {
        Check.holds("30. AN IMAGE is kept: how many PIECES", EdgesOfHostTest::imageTells);
        Check.holds("31. All that it keeps is as in THE IMAGE: how many PIECES", EdgesOfHostTest::backTells);
        Check.holds("31. STATE: there is none", EdgesOfHostTest::backWithoutImage);
        Check.holds("31. THE IMAGE stands, as often as it is laid back", EdgesOfHostTest::backAgain);
        Check.holds("30. a later IMAGE is in place of the one ahead", EdgesOfHostTest::laterImage);
    }

    private static void imageTells() {
        RailOffsets x = new RailOffsets();
        for (int i = 0; i <= 10; i++) {
            Check.due("image", x.image(), i);
            Check.due("back", x.back(), i);
            x.piece(0, 1, 0, 0);
        }
    }

    private static void backTells() {
        RailOffsets x = full();
        x.image();
        for (int i = 0; i < 10; i++) {
            x.drop();
        }
        Check.due("ten", x.back(), 10);
        Check.due("stations", x.count(1), 200);
        Check.due("a versine", x.at(200, 0), 9);
        Check.due("no room", x.piece(0, 1, 0, 0), -4);
        RailOffsets y = new RailOffsets();
        y.image();
        y.piece(0, 20, 0, 9);
        y.rule(5, 7);
        Check.due("none", y.back(), 0);
        Check.due("stations", y.count(1), 0);
        Check.due("heights", y.count(4), 0);
        Check.due("rule", y.rule(5, 60), 60);
    }

    private static void backWithoutImage() {
        RailOffsets x = Scene.one(1, 2, 3);
        Check.due("none", x.back(), -3);
        Check.due("the piece stands", x.at(2, 3), 9);
        Check.due("none", x.back(), -3);
        Check.due("image", x.image(), 1);
        Check.due("there is one", x.back(), 1);
    }

    private static void backAgain() {
        RailOffsets x = Scene.one(1, 2, 3);
        x.rule(6, -7);
        x.image();
        for (int i = 0; i < 3; i++) {
            Check.due("back", x.back(), 1);
            Check.due("bend", x.set(0, 1, 50 + i), 3);
            Check.due("length", x.set(0, 0, 20), 2);
            Check.due("end", x.rule(6, i), -7);
            x.piece(0, 1, 0, 0);
        }
    }

    private static void laterImage() {
        RailOffsets x = Scene.one(1, 2, 3);
        x.image();
        x.piece(1, 2, 4, 0);
        x.rule(5, 9);
        Check.due("image", x.image(), 2);
        x.drop();
        x.drop();
        x.rule(5, 8);
        Check.due("back", x.back(), 2);
        Check.due("speed", x.rule(5, 0), 9);
        x.drop();
        x.drop();
        Check.due("an image of none", x.image(), 0);
        x.piece(0, 1, 0, 0);
        Check.due("back", x.back(), 0);
    }

    // ---- promise 32

    private static void loads() {
        Check.holds("32. from one on, four a PIECE, n of them (0 .. 10)", EdgesOfHostTest::loadOfN);
        Check.holds("32. how many came (others are left out)", EdgesOfHostTest::loadLeavesOut);
        Check.holds("32. BAD: no such SHEET, sort, n", EdgesOfHostTest::loadBad);
        Check.holds("32. -13", EdgesOfHostTest::loadOfAnotherSort);
        Check.holds("32. -11", EdgesOfHostTest::loadMissing);
        Check.holds("32. -12: from", EdgesOfHostTest::loadFromOutside);
        Check.holds("32. -12: what stood ahead came", EdgesOfHostTest::loadWhatStoodAhead);
        Check.holds("32. n 0: a SHEET is asked for, no place is", EdgesOfHostTest::loadOfNone);
        Check.holds("32. BAD ahead of -13 and -11, these ahead of -12", EdgesOfHostTest::loadInOrder);
        Check.holds("32. numbers that wrap around", EdgesOfHostTest::loadWrapsAround);
    }

    private static void loadOfN() {
        RailOffsets x = new RailOffsets();
        x.sheet(0, 0, 40);
        for (int i = 0; i < 10; i++) {
            int[] q = {i % 6, 20 - i, -i, 10 * i};
            for (int k = 0; k < 4; k++) {
                x.put(0, 4 * i + k, q[k]);
            }
        }
        Check.due("none", x.load(0, 0, 0, 0), 0);
        Check.due("count", x.count(0), 0);
        Check.due("ten", x.load(0, 0, 0, 10), 10);
        for (int i = 0; i < 10; i++) {
            int[] q = {i % 6, 20 - i, -i, 10 * i};
            for (int k = 0; k < 4; k++) {
                Check.due("of(" + i + ", " + k + ")", x.of(i, k), q[k]);
            }
        }
        x.drop();
        Check.due("the last of forty", x.load(0, 0, 36, 1), 1);
        Check.due("its length", x.of(9, 1), 11);
        x.drop();
        x.drop();
        // Three numbers on: a KIND of 0, 4 as a LENGTH .. of what stands from place 3 on.
        x.put(0, 3, 5);
        x.put(0, 4, 6);
        x.put(0, 5, 7);
        x.put(0, 6, 8);
        Check.due("from a place within", x.load(0, 0, 3, 1), 1);
        Check.due("kind", x.of(8, 0), 5);
        Check.due("length", x.of(8, 1), 6);
        Check.due("bend", x.of(8, 2), 7);
        Check.due("cant", x.of(8, 3), 8);
    }

    private static void loadLeavesOut() {
        RailOffsets x = new RailOffsets();
        Check.ints(x, 0, 6, 1, 0, 0, 0, 1, 0, 0, 0, 21, 0, 0, 5, 20, 99, 160, 0, 1, 100, 0, 0, 1, 0, -1, 1, 1, -99, 0);
        Check.due("three of seven", x.load(0, 1, 0, 7), 3);
        Check.due("count", x.count(0), 3);
        Check.due("the second of them", x.of(1, 0), 5);
        Check.due("the third of them", x.of(2, 2), -99);
        for (int i = 3; i < 9; i++) {
            x.piece(0, 1, 0, 0);
        }
        Check.due("room for one", x.load(0, 1, 0, 7), 1);
        Check.due("full", x.load(0, 1, 0, 7), 0);
        Check.due("count", x.count(0), 10);
    }

    private static void loadBad() {
        RailOffsets x = new RailOffsets();
        x.sheet(0, 1, 40);
        int[][] bad = {{-1, 1, 1}, {4, 1, 1}, {MIN, 1, 1}, {MAX, 1, 1}, {0, -1, 1}, {0, 2, 1}, {0, MIN, 1}, {0, MAX, 1},
            {0, 1, -1}, {0, 1, 11}, {0, 1, MIN}, {0, 1, MAX}};
        for (int[] b : bad) {
            Check.due(new Call("load", b[0], b[1], 0, b[2]).toString(), x.load(b[0], b[1], 0, b[2]), -2);
        }
        Check.due("count", x.count(0), 0);
        Check.due("n 10", x.load(0, 1, 0, 10), 0);
        Check.due("n 0", x.load(0, 1, 0, 0), 0);
    }

    private static void loadOfAnotherSort() {
        RailOffsets x = new RailOffsets();
        Check.ints(x, 0, 0, 1, 0, 0);
        Check.shorts(x, 1, 0, 1, 0, 0);
        Check.due("ints as shorts", x.load(0, 0, 0, 1), -13);
        Check.due("shorts as ints", x.load(1, 1, 0, 1), -13);
        Check.due("also none of them", x.load(1, 1, 0, 0), -13);
        Check.due("count", x.count(0), 0);
        Check.due("ints", x.load(0, 1, 0, 1), 1);
        Check.due("shorts", x.load(1, 0, 0, 1), 1);
    }

    private static void loadMissing() {
        RailOffsets x = new RailOffsets();
        for (int sort = 0; sort < 2; sort++) {
            Check.due("at first", x.load(2, sort, 0, 1), -11);
            Check.due("at first, ten", x.load(2, sort, 0, 10), -11);
            x.sheet(2, sort, 40);
            x.sheet(2, -1, 40);
            Check.due("again", x.load(2, sort, 0, 1), -11);
            Check.due("again", x.load(2, 1 - sort, 0, 1), -11);
        }
    }

    private static void loadFromOutside() {
        RailOffsets x = new RailOffsets();
        Check.ints(x, 0, 0, 1, 0, 0, 0);
        Check.due("from 0", x.load(0, 1, 0, 1), 1);
        Check.due("from 1: the length is 0", x.load(0, 1, 1, 1), 0);
        Check.due("from 2", x.load(0, 1, 2, 1), -12);
        Check.due("from 5", x.load(0, 1, 5, 1), -12);
        Check.due("from -1", x.load(0, 1, -1, 1), -12);
        Check.due("from -4", x.load(0, 1, -4, 2), -12);
        x.sheet(1, 1, 0);
        Check.due("of none", x.load(1, 1, 0, 1), -12);
        x.sheet(1, 1, 3);
        Check.due("of three", x.load(1, 1, 0, 1), -12);
        Check.due("count", x.count(0), 1);
    }

    private static void loadWhatStoodAhead() {
        RailOffsets x = new RailOffsets();
        x.sheet(0, 1, 39);
        for (int i = 1; i < 39; i += 4) {
            x.put(0, i, 2);
        }
        Check.due("nine and three numbers", x.load(0, 1, 0, 10), -12);
        Check.due("nine came", x.count(0), 9);
        Check.due("stations", x.count(1), 18);
        RailOffsets y = new RailOffsets();
        Check.ints(y, 0, 0, 1, 0, 0, 9, 9, 9, 9);
        Check.due("one of two, then outside", y.load(0, 1, 0, 3), -12);
        Check.due("one came", y.count(0), 1);
    }

    private static void loadOfNone() {
        RailOffsets x = new RailOffsets();
        Check.due("missing", x.load(0, 0, 0, 0), -11);
        Check.due("missing", x.load(0, 1, 0, 0), -11);
        Check.shorts(x, 0);
        Check.shorts(x, 1, 0, 1, 0, 0);
        Check.due("of another sort", x.load(1, 1, 0, 0), -13);
        for (int from : new int[] {MIN, -1, 0, 3, 4, 5, 40, 41, MAX}) {
            Check.due("none of a row of none, from " + from, x.load(0, 0, from, 0), 0);
            Check.due("none of four, from " + from, x.load(1, 0, from, 0), 0);
        }
        Check.due("count", x.count(0), 0);
    }

    private static void loadInOrder() {
        RailOffsets x = new RailOffsets();
        Check.ints(x, 0, 0, 1, 0, 0);
        Check.due("no such sort, missing", x.load(1, 2, 0, 1), -2);
        Check.due("no such n, missing", x.load(1, 1, 0, 11), -2);
        Check.due("no such n, of another sort", x.load(0, 0, 0, -1), -2);
        Check.due("of another sort, outside", x.load(0, 0, -1, 1), -13);
        Check.due("of another sort, outside", x.load(0, 0, 4, 1), -13);
        Check.due("missing, outside", x.load(1, 0, -1, 1), -11);
        Check.due("missing, outside", x.load(1, 1, MAX, 1), -11);
    }

    private static void loadWrapsAround() {
        RailOffsets x = new RailOffsets();
        x.sheet(0, 1, 40);
        x.put(0, 1, 1);
        for (int from : new int[] {MAX, MAX - 2, MAX - 3, MAX - 7, MIN, MIN + 1, MIN + 4, -40, 37, 40}) {
            Check.due("from " + from, x.load(0, 1, from, 10), -12);
            Check.due("from " + from, x.load(0, 1, from, 1), -12);
        }
        Check.due("count", x.count(0), 0);
        x.sheet(1, 0, 4);
        x.put(1, 0, 65536 + 1);
        x.put(1, 1, -65536 + 20);
        x.put(1, 2, 65536 - 99);
        x.put(1, 3, MIN + 160);
        Check.due("by the lowest 16 bits", x.load(1, 0, 0, 1), 1);
        int[] want = {1, 20, -99, 160};
        for (int what = 0; what < 4; what++) {
            Check.due("of", x.of(0, what), want[what]);
        }
        Check.ints(x, 2, 65536 + 1, 1, 0, 0);
        Check.due("an int is all of it", x.load(2, 1, 0, 1), 0);
    }

    // ---- promise 33

    private static void counts() {
        Check.holds("33. How many: 0 .. 4, of none", EdgesOfHostTest::countNone);
        Check.holds("33. 0 PIECES, 1 STATIONS, 2 bytes of THE TAPE, the most of each", EdgesOfHostTest::countMost);
        Check.holds("33. 3 LENGTHS of all REVERSES", EdgesOfHostTest::countReverses);
        Check.holds("33. 4 STATIONS with a HEIGHT above 0", EdgesOfHostTest::countHeights);
        Check.holds("33. BAD", EdgesOfHostTest::countBad);
    }

    private static void countNone() {
        RailOffsets x = new RailOffsets();
        for (int what = 0; what < 5; what++) {
            Check.due("count(" + what + ")", x.count(what), 0);
        }
    }

    private static void countMost() {
        RailOffsets x = full();
        for (int i = 0; i < 10; i++) {
            x.set(i, 3, 3);
            x.set(i, 2, 1);
        }
        Check.feed(x, "                                                            ");
        int[] want = {10, 200, 60, 200, 200};
        for (int what = 0; what < 5; what++) {
            Check.due("count(" + what + ")", x.count(what), want[what]);
        }
    }

    private static void countReverses() {
        RailOffsets x = new RailOffsets();
        for (int kind = 0; kind < 6; kind++) {
            x.piece(kind, kind + 1, 0, 0);
        }
        // None is under a REVERSE, and a CIRCLE above it is none.
        Check.due("one", x.count(3), 4);
        x.piece(3, 20, 0, 0);
        Check.due("two", x.count(3), 24);
        x.set(3, 3, 5);
        Check.due("one again", x.count(3), 20);
    }

    private static void countHeights() {
        RailOffsets x = new RailOffsets();
        x.piece(0, 3, 0, 0);
        Check.due("none above 0", x.count(4), 0);
        x.set(0, 2, 1);
        Check.due("all", x.count(4), 3);
        x.piece(2, 4, 0, 0);
        // 1 less k by 4, cut: 1, 1, 1, 0.
        Check.due("down to 0", x.count(4), 6);
        x.set(0, 2, 0);
        x.set(1, 2, 2);
        // 2 k by 4: 0, 1, 1, 2.
        Check.due("up from 0", x.count(4), 3);
    }

    private static void countBad() {
        RailOffsets x = full();
        for (int what : new int[] {-1, 5, MIN, MAX}) {
            Check.due("count(" + what + ")", x.count(what), -2);
        }
    }

    // ---- promise 34

    private static void sheets() {
        Check.holds("34. a row of n of a sort, all 0", EdgesOfHostTest::sheetAllNought);
        Check.holds("34. n: 0 and 40 are taken; above 40 BAD; -14", EdgesOfHostTest::sheetOfN);
        Check.holds("34. or missing (sort -1: n does not matter)", EdgesOfHostTest::sheetMissing);
        Check.holds("34. BAD: no such SHEET, sort", EdgesOfHostTest::sheetBad);
        Check.holds("34. BAD ahead of -14", EdgesOfHostTest::sheetInOrder);
    }

    private static void sheetAllNought() {
        RailOffsets x = Scene.one(0, 20, 0);
        x.piece(0, 20, 0, 0);
        for (int sort = 0; sort < 2; sort++) {
            x.sheet(0, sort, 40);
            Check.due("all 0", x.slews(0, 1), 0);
            x.put(0, 0, 9);
            x.put(0, 39, 9);
            x.sheet(0, sort, 40);
            Check.due("all 0 anew", x.slews(0, 1), 0);
            x.put(0, 39, 9);
            x.sheet(0, sort, 1);
            x.sheet(0, 1 - sort, 40);
            Check.due("all 0 of another sort", x.slews(0, 1), 0);
        }
    }

    private static void sheetOfN() {
        RailOffsets x = new RailOffsets();
        for (int sort = 0; sort < 2; sort++) {
            Check.due("none", x.sheet(0, sort, 0), 1);
            Check.due("it is there, of none", x.put(0, 0, 0), -12);
            Check.due("one", x.sheet(0, sort, 1), 1);
            Check.due("it has one", x.put(0, 0, 0), 1);
            Check.due("it has one", x.put(0, 1, 0), -12);
            Check.due("forty", x.sheet(0, sort, 40), 1);
            Check.due("it has forty", x.put(0, 39, 0), 1);
            Check.due("it has forty", x.put(0, 40, 0), -12);
            Check.due("41", x.sheet(0, sort, 41), -2);
            Check.due("MAX", x.sheet(0, sort, MAX), -2);
            Check.due("-1", x.sheet(0, sort, -1), -14);
            Check.due("MIN", x.sheet(0, sort, MIN), -14);
            Check.due("it is as it was", x.put(0, 39, 0), 1);
        }
    }

    private static void sheetMissing() {
        RailOffsets x = new RailOffsets();
        for (int n : new int[] {0, 1, 40, 41, -1, MIN, MAX}) {
            x.sheet(1, 1, 2);
            Check.due("n " + n, x.sheet(1, -1, n), 1);
            Check.due("it is missing", x.put(1, 0, 0), -11);
            Check.due("once more", x.sheet(1, -1, n), 1);
        }
        x.sheet(1, 0, 2);
        Check.due("there again", x.put(1, 1, 0), 1);
    }

    private static void sheetBad() {
        RailOffsets x = new RailOffsets();
        for (int sheet : new int[] {-1, 4, MIN, MAX}) {
            for (int sort = -1; sort < 2; sort++) {
                Check.due("sheet " + sheet, x.sheet(sheet, sort, 1), -2);
            }
        }
        for (int sort : new int[] {-2, 2, MIN, MAX}) {
            Check.due("sort " + sort, x.sheet(0, sort, 1), -2);
        }
        Check.due("it is missing still", x.put(0, 0, 0), -11);
    }

    private static void sheetInOrder() {
        RailOffsets x = new RailOffsets();
        Check.due("no such SHEET, below 0", x.sheet(4, 0, -1), -2);
        Check.due("no such SHEET, below 0", x.sheet(-1, 1, MIN), -2);
        Check.due("no such sort, below 0", x.sheet(0, 2, -1), -2);
        Check.due("no such sort, below 0", x.sheet(0, -2, -1), -2);
        Check.due("below 0", x.sheet(0, 0, -1), -14);
    }

    // ---- promise 35

    private static void puts() {
        Check.holds("35. of shorts its lowest 16 bits", EdgesOfHostTest::putShorts);
        Check.holds("35. of ints all of it", EdgesOfHostTest::putInts);
        Check.holds("35. BAD: no such SHEET; -11; -12", EdgesOfHostTest::putInOrder);
        Check.holds("35. -12: outside on both sides", EdgesOfHostTest::putOutside);
    }

    private static void putShorts() {
        RailOffsets x = Scene.one(0, 1, 0);
        x.sheet(0, 0, 1);
        int[][] rows = {{65535, -1}, {65536, 0}, {65537, 1}, {-65537, -1}, {-65535, 1}, {MAX, -1}, {MIN, 0},
            {MIN + 5, 5}, {98304 + 32768 - 7, -7}, {999, 999}, {-999, -999}};
        for (int[] r : rows) {
            Check.due("put", x.put(0, 0, r[0]), 1);
            Check.due("of " + r[0], x.slew(0, 1), r[1]);
        }
        // 32767 and -32768 are as they are, 32768 wraps around: all are taken for 999 or -999.
        x.put(0, 0, 32767);
        Check.due("32767", x.slew(0, 1), 999);
        x.put(0, 0, 32768);
        Check.due("32768", x.slew(0, 1), -999);
        x.put(0, 0, -32768);
        Check.due("-32768", x.slew(0, 1), -999);
        x.put(0, 0, -32769);
        Check.due("-32769", x.slew(0, 1), 999);
    }

    private static void putInts() {
        RailOffsets x = Scene.one(0, 1, 0);
        x.sheet(0, 1, 1);
        int[][] rows = {{65535, 999}, {65536, 999}, {-65537, -999}, {MAX, 999}, {MIN, -999}, {32768, 999}, {-32769, -999}};
        for (int[] r : rows) {
            Check.due("put", x.put(0, 0, r[0]), 1);
            Check.due("of " + r[0], x.slew(0, 1), r[1]);
        }
    }

    private static void putInOrder() {
        RailOffsets x = new RailOffsets();
        for (int sheet : new int[] {-1, 4, MIN, MAX}) {
            Check.due("no such SHEET", x.put(sheet, 0, 0), -2);
            Check.due("no such SHEET, outside", x.put(sheet, -1, 0), -2);
        }
        Check.due("missing", x.put(3, 0, 0), -11);
        Check.due("missing, outside", x.put(3, -1, 0), -11);
        Check.due("missing, outside", x.put(3, 40, 0), -11);
    }

    private static void putOutside() {
        RailOffsets x = Scene.one(0, 5, 0);
        Check.ints(x, 3, 7, 8, 9);
        for (int i : new int[] {-1, 3, 39, 40, MIN, MAX}) {
            Check.due("item " + i, x.put(3, i, 1), -12);
        }
        holds(x, 3, 7, 8, 9);
        Check.due("the first", x.put(3, 0, 1), 1);
        Check.due("the last", x.put(3, 2, 2), 1);
        holds(x, 3, 1, 8, 2);
        x.sheet(3, 0, 0);
        Check.due("of none", x.put(3, 0, 1), -12);
    }

    // ---- promise 36

    private static void copies() {
        Check.holds("36. n numbers from item i on come to another one's item j on: n", EdgesOfHostTest::copyTells);
        Check.holds("36. (as they were): to itself, both ways", EdgesOfHostTest::copyToItself);
        Check.holds("36. none, at the size of both", EdgesOfHostTest::copyOfNone);
        Check.holds("36. -12: the first outside, on both sides", EdgesOfHostTest::copyOutside);
        Check.holds("36. -12 (also with n below 0)", EdgesOfHostTest::copyBelow);
        Check.holds("36. -12: numbers that wrap around", EdgesOfHostTest::copyWrapsAround);
        Check.holds("36. BAD: no such SHEET; -11; -13; -12, the first of these", EdgesOfHostTest::copyInOrder);
    }

    private static void copyTells() {
        RailOffsets x = Scene.one(0, 6, 0);
        Check.ints(x, 0, 1, 2, 3, 4);
        Check.ints(x, 1, 9, 9, 9, 9, 9);
        Check.due("two", x.copy(0, 2, 1, 1, 2), 2);
        holds(x, 1, 9, 3, 4, 9, 9);
        holds(x, 0, 1, 2, 3, 4);
        Check.due("all four", x.copy(0, 0, 1, 1, 4), 4);
        holds(x, 1, 9, 1, 2, 3, 4);
        x.sheet(2, 0, 40);
        x.sheet(3, 0, 40);
        x.put(2, 39, 5);
        Check.due("all forty", x.copy(2, 0, 3, 0, 40), 40);
        Check.due("the last to the first", x.copy(3, 39, 3, 0, 1), 1);
        Check.due("it came", x.slew(3, 1), 5);
        x.put(0, 0, 70000);
        x.copy(0, 0, 1, 0, 1);
        Check.ints(x, 0, 0);
        x.copy(1, 0, 0, 0, 1);
        Check.due("an int came as it was", x.slew(0, 1), 999);
    }

    private static void copyToItself() {
        RailOffsets x = Scene.one(0, 6, 0);
        Check.shorts(x, 0, 1, 2, 3, 4, 5);
        Check.due("forth", x.copy(0, 0, 0, 1, 4), 4);
        holds(x, 0, 1, 1, 2, 3, 4);
        Check.due("back", x.copy(0, 1, 0, 0, 4), 4);
        holds(x, 0, 1, 2, 3, 4, 4);
        Check.due("in place", x.copy(0, 0, 0, 0, 5), 5);
        holds(x, 0, 1, 2, 3, 4, 4);
    }

    private static void copyOfNone() {
        RailOffsets x = Scene.one(0, 6, 0);
        Check.ints(x, 0, 1, 2);
        Check.ints(x, 1, 3, 4, 5);
        Check.due("in front", x.copy(0, 0, 1, 0, 0), 0);
        Check.due("at the ends", x.copy(0, 2, 1, 3, 0), 0);
        Check.due("behind the one", x.copy(0, 3, 1, 3, 0), -12);
        Check.due("behind the other", x.copy(0, 2, 1, 4, 0), -12);
        Check.due("ahead of the one", x.copy(0, -1, 1, 0, 0), -12);
        Check.due("ahead of the other", x.copy(0, 0, 1, -1, 0), -12);
        x.sheet(2, 1, 0);
        Check.due("of a row of none", x.copy(2, 0, 1, 0, 0), 0);
        Check.due("of a row of none", x.copy(2, 0, 1, 0, 1), -12);
        Check.due("to a row of none", x.copy(1, 0, 2, 0, 1), -12);
        holds(x, 1, 3, 4, 5);
    }

    private static void copyOutside() {
        RailOffsets x = Scene.one(0, 6, 0);
        Check.ints(x, 0, 1, 2, 3);
        Check.ints(x, 1, 4, 5, 6, 7);
        int[][] outside = {{-1, 0, 1}, {3, 0, 1}, {2, 0, 2}, {0, 0, 4}, {0, -1, 1}, {0, 4, 1}, {0, 3, 2}, {0, 2, 3}};
        for (int[] o : outside) {
            Check.due(new Call("copy", 0, o[0], 1, o[1], o[2]).toString(), x.copy(0, o[0], 1, o[1], o[2]), -12);
        }
        holds(x, 1, 4, 5, 6, 7);
        Check.due("just within", x.copy(0, 2, 1, 3, 1), 1);
        holds(x, 1, 4, 5, 6, 3);
        Check.due("just within", x.copy(0, 0, 1, 1, 3), 3);
        holds(x, 1, 4, 1, 2, 3);
    }

    private static void copyBelow() {
        RailOffsets x = Scene.one(0, 6, 0);
        Check.ints(x, 0, 1, 2, 3);
        Check.ints(x, 1, 4, 5, 6);
        for (int n : new int[] {-1, -2, -3, MIN}) {
            Check.due("n " + n, x.copy(0, 0, 1, 0, n), -12);
            Check.due("n " + n, x.copy(0, 3, 1, 3, n), -12);
            Check.due("n " + n, x.copy(0, 4, 1, 4, n), -12);
        }
        holds(x, 1, 4, 5, 6);
    }

    private static void copyWrapsAround() {
        RailOffsets x = Scene.one(0, 6, 0);
        Check.ints(x, 0, 1, 2, 3);
        Check.ints(x, 1, 4, 5, 6);
        int[][] outside = {{MAX, 0, 1}, {0, MAX, 1}, {1, 1, MAX}, {MAX, MAX, MAX}, {MIN, 0, 1}, {0, MIN, 1},
            {MIN, MIN, MIN}, {MAX, MAX, 0}, {MIN, MIN, 0}, {MAX, 0, 2}, {0, 0, MAX}, {0, 0, 65536}, {65536, 0, 1}};
        for (int[] o : outside) {
            Check.due(new Call("copy", 0, o[0], 1, o[1], o[2]).toString(), x.copy(0, o[0], 1, o[1], o[2]), -12);
        }
        holds(x, 1, 4, 5, 6);
    }

    private static void copyInOrder() {
        RailOffsets x = new RailOffsets();
        Check.ints(x, 0, 1, 2, 3);
        Check.shorts(x, 1, 4, 5, 6);
        for (int sheet : new int[] {-1, 4, MIN, MAX}) {
            Check.due("no such SHEET", x.copy(sheet, 0, 0, 0, 1), -2);
            Check.due("no such SHEET", x.copy(0, 0, sheet, 0, 1), -2);
            Check.due("no such SHEET, missing", x.copy(sheet, 0, 2, 0, 1), -2);
            Check.due("no such SHEET, missing", x.copy(2, 0, sheet, 0, 1), -2);
            Check.due("no such SHEET, outside", x.copy(0, -1, sheet, 0, -1), -2);
        }
        Check.due("missing", x.copy(2, 0, 0, 0, 1), -11);
        Check.due("missing", x.copy(0, 0, 2, 0, 1), -11);
        Check.due("missing, both", x.copy(2, 0, 3, 0, 1), -11);
        Check.due("missing, outside", x.copy(2, -1, 0, 0, 1), -11);
        Check.due("missing, n below 0", x.copy(0, 0, 2, 0, -1), -11);
        Check.due("unlike sorts", x.copy(0, 0, 1, 0, 1), -13);
        Check.due("unlike sorts", x.copy(1, 0, 0, 0, 1), -13);
        Check.due("unlike sorts, none of them", x.copy(1, 0, 0, 0, 0), -13);
        Check.due("unlike sorts, outside", x.copy(0, 3, 1, 0, 1), -13);
        Check.due("unlike sorts, n below 0", x.copy(1, 0, 0, 0, -1), -13);
        Check.due("outside", x.copy(0, 3, 0, 0, 1), -12);
    }
}
