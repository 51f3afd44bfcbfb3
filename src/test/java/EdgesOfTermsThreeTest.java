/** Terms, part 3, and what the document says in doubt of it: each sentence that names an edge, by itself. */
public final class EdgesOfTermsThreeTest {
    private static final int MIN = Integer.MIN_VALUE, MAX = Integer.MAX_VALUE;
    private static final long NO = RailOffsets.NO;

    public static void main(String[] args) {
        oldLines();
        bendsBySlews();
        errors();
        told();
        tokens();
        clauses();
        textsThatAreDone();
        images();
        sheets();
        Check.done("EdgesOfTermsThreeTest");
    }

    // ---- old lines

    private static void oldLines() {
        Check.holds("those it doesn't tell are 0", EdgesOfTermsThreeTest::notTold);
        Check.holds("a SHEET that tells none: all are 0", EdgesOfTermsThreeTest::toldNone);
        Check.holds("what it tells behind the last STATION doesn't count", EdgesOfTermsThreeTest::toldBehind);
        Check.holds("numbers are taken for -999 at least, 999 at most", EdgesOfTermsThreeTest::takenFor);
        Check.holds("SLEW: OFFSET of the old line less OFFSET", EdgesOfTermsThreeTest::slewHasASign);
        Check.holds("WIDEST: the greatest SLEW without sign, of like ones the first", EdgesOfTermsThreeTest::widest);
        Check.holds("WIDEST: all are 0, the first is it", EdgesOfTermsThreeTest::widestOfNought);
        Check.holds("(NONE: no STATIONS)", EdgesOfTermsThreeTest::widestOfNone);
    }

    private static void slews(RailOffsets x, int sheet, int... want) {
        for (int s = 0; s < want.length; s++) {
            Check.due("slew(" + sheet + ", " + s + ")", x.slew(sheet, s), want[s]);
        }
        Check.due("slew behind the last", x.slew(sheet, want.length), NO);
    }

    private static void notTold() {
        RailOffsets x = Scene.one(1, 4, 1);
        Check.ints(x, 0, 1, 1);
        slews(x, 0, 0, 0, 0, -1, -3);
        Check.shorts(x, 1, 1, 1, 1);
        slews(x, 1, 0, 0, 0, 0, -1);
    }

    private static void toldNone() {
        RailOffsets x = Scene.one(1, 3, 2);
        Check.ints(x, 0);
        slews(x, 0, 0, -2, -6, -12);
        Check.shorts(x, 0);
        slews(x, 0, 0, -2, -6, -12);
    }

    private static void toldBehind() {
        RailOffsets x = Scene.one(1, 2, 2);
        Check.ints(x, 0, 2, 2, 900, -900);
        slews(x, 0, 0, 0, 0);
        Check.due("together", x.slews(0, 1), 0);
        Check.due("widest", x.slews(0, 0), 1);
        Check.due("last", x.slews(0, 2), 0);
        Check.due("by", x.by(0, 0), 1002);
    }

    private static void takenFor() {
        RailOffsets x = Scene.one(0, 1, 0);
        int[][] ints = {{998, 998}, {999, 999}, {1000, 999}, {MAX, 999}, {-998, -998}, {-999, -999}, {-1000, -999},
            {MIN, -999}, {65536, 999}, {-65536, -999}};
        for (int[] v : ints) {
            Check.ints(x, 0, v[0]);
            Check.due("the int " + v[0], x.slew(0, 1), v[1]);
        }
        int[][] shorts = {{998, 998}, {999, 999}, {1000, 999}, {32767, 999}, {-999, -999}, {-1000, -999}, {-32768, -999}};
        for (int[] v : shorts) {
            Check.shorts(x, 1, v[0]);
            Check.due("the short " + v[0], x.slew(1, 1), v[1]);
        }
    }

    private static void slewHasASign() {
        RailOffsets x = Scene.one(1, 2, 10);
        Check.ints(x, 0, 11, 9);
        slews(x, 0, 0, 1, 1);
        Check.ints(x, 0, 9, 10);
        slews(x, 0, 0, -1, -2);
        x.set(0, 1, -10);
        slews(x, 0, 0, 19, 58);
    }

    private static void widest() {
        RailOffsets x = Scene.one(0, 4, 0);
        // Slews 3, 3, 3, 3.
        Check.ints(x, 0, 3, -3);
        Check.due("all like", x.slews(0, 0), 1);
        // Slews 3, -3, -3, -3.
        Check.ints(x, 0, 3, -9, 6);
        Check.due("of like ones without sign", x.slews(0, 0), 1);
        // Slews 3, -4, 4, -4.
        Check.ints(x, 0, 3, -10, 15, -16);
        Check.due("below 0", x.slews(0, 0), 2);
        // Slews 0, 0, 0, 1.
        Check.ints(x, 0, 0, 0, 0, 1);
        Check.due("the last", x.slews(0, 0), 4);
        Check.ints(x, 0, 0, 0, 0, -1);
        Check.due("the last, below 0", x.slews(0, 0), 4);
    }

    private static void widestOfNought() {
        RailOffsets x = Scene.one(1, 3, 5);
        Check.ints(x, 0, 5, 5, 5);
        Check.due("widest", x.slews(0, 0), 1);
    }

    private static void widestOfNone() {
        RailOffsets x = new RailOffsets();
        Check.ints(x, 0, 5, 5);
        Check.due("widest", x.slews(0, 0), -1);
        x.piece(0, 1, 0, 0);
        Check.due("one station", x.slews(0, 0), 1);
        x.drop();
        Check.due("none again", x.slews(0, 0), -1);
    }

    // ---- by

    private static void bendsBySlews() {
        Check.holds("BY: the BEND (-99 .. 99)", EdgesOfTermsThreeTest::byAtItsEnds);
        Check.holds("BY: (of like ones the least)", EdgesOfTermsThreeTest::byOfLikeOnes);
        Check.holds("BY: it alone, by which the greatest SLEW without sign is least", EdgesOfTermsThreeTest::byTheGreatest);
    }

    private static void byAtItsEnds() {
        int[][] rows = {{98, 1098}, {99, 1099}, {100, 1099}, {999, 1099}, {-98, 902}, {-99, 901}, {-100, 901}, {-999, 901}};
        for (int[] r : rows) {
            RailOffsets x = Scene.one(1, 1, 0);
            Check.ints(x, 0, r[0]);
            Check.due("of " + r[0], x.by(0, 0), r[1]);
        }
    }

    private static void byOfLikeOnes() {
        RailOffsets x = Scene.one(0, 3, 50);
        Check.ints(x, 0, 1, 2, 3);
        Check.due("a STRAIGHT: all are like", x.by(0, 0), 901);
        x.set(0, 3, 5);
        Check.ints(x, 0, 2, 2, 2);
        Check.due("a FLAT: 4 and 5 are like", x.by(0, 0), 1004);
        Check.ints(x, 0, -2, -2, -2);
        Check.due("a FLAT: -5 and -4 are like", x.by(0, 0), 995);
        Check.ints(x, 0);
        Check.due("a FLAT: -1, 0, 1 are like", x.by(0, 0), 999);
        RailOffsets y = Scene.one(1, 1, 0);
        y.piece(0, 1, 0, 0);
        Check.ints(y, 0, 3, 1);
        // The greatest of 3 - b and 7 - 2 b without sign is 1 by 3 and by 4.
        Check.due("one to each side", y.by(0, 0), 1003);
    }

    private static void byTheGreatest() {
        // Slews 12 - b and -3 b: by 3 they are 9 and -9. By 0 their sum without sign would be least, by 1 that of squares.
        RailOffsets x = Scene.one(1, 2, 77);
        Check.ints(x, 0, 12, -24);
        Check.due("not the least sum", x.by(0, 0), 1003);
        Check.due("its bend stays", x.of(0, 2), 77);
        // The ease behind goes by it.
        RailOffsets y = Scene.one(1, 1, 0);
        y.piece(2, 2, 0, 0);
        Check.ints(y, 0, 8, 4, 0);
        Check.due("all is as it was", y.by(0, 0), 1008);
    }

    // ---- errors

    private static void errors() {
        Check.holds("z * 1103515245 + 12345 (an int; SEED at first)", EdgesOfTermsThreeTest::errorsAreOfInts);
        Check.holds("anew for each STATION", EdgesOfTermsThreeTest::errorsAreAnew);
        Check.holds("anew for each STATION, 200 of them", EdgesOfTermsThreeTest::errorsOfTheLongest);
        Check.holds("its VERSINE as it is, and (z >>> 9) % (2 n + 1) less n", EdgesOfTermsThreeTest::errorsAreAdded);
        Check.holds("IN m seeds (1 .. 20)", EdgesOfTermsThreeTest::seedsUpToTwenty);
        Check.holds("SEED and each 1 more (an int)", EdgesOfTermsThreeTest::seedsWrapAround);
        Check.holds("those by which the greatest SLEW without sign is w or less", EdgesOfTermsThreeTest::wOrLess);
    }

    private static void errorsAreOfInts() {
        // Of one station: seed, by n 1, by n 9; -1 is a z below 0, and MAX one whose product is beyond the ints.
        int[][] rows = {{0, 1, 4}, {1, 0, 4}, {-1, 1, 8}, {MAX, 1, 8}, {MIN, 0, 7}, {5, 0, 3}};
        for (int[] r : rows) {
            RailOffsets x = Scene.one(0, 1, 0);
            Check.due("errors(" + r[0] + ", 0)", x.errors(r[0], 0), 0);
            Check.due("errors(" + r[0] + ", 1)", x.errors(r[0], 1), r[1]);
            Check.due("errors(" + r[0] + ", 9)", x.errors(r[0], 9), r[2]);
        }
    }

    private static void errorsAreAnew() {
        // Seed 0 errs by -4, 9, -1: turns -4, 5, 4, slews -4, 1, 5. MIN errs by -7, -7, 2: slews -7, -21, -33.
        RailOffsets x = Scene.one(0, 2, 0);
        Check.due("two", x.errors(0, 9), 4);
        Check.due("two", x.errors(MIN, 9), 21);
        x.set(0, 0, 3);
        Check.due("three", x.errors(0, 9), 5);
        Check.due("three", x.errors(MIN, 9), 33);
        Check.due("the same again", x.errors(0, 9), 5);
    }

    private static void errorsOfTheLongest() {
        RailOffsets x = new RailOffsets();
        for (int i = 0; i < 10; i++) {
            x.piece(i % 6, 20, 11 * i, 0);
        }
        for (int seed : new int[] {0, -1, MIN, MAX, 77}) {
            long z = seed;
            long turn = 0;
            long slew = 0;
            long most = 0;
            for (int s = 1; s <= 200; s++) {
                z = Math.floorMod(z * 1103515245L + 12345L, 4294967296L);
                turn += z / 512 % 19 - 9;
                slew += turn;
                most = Math.max(most, Math.abs(slew));
            }
            Check.due("errors(" + seed + ", 9)", x.errors(seed, 9), most);
            Check.due("just w", x.chance(seed, 1, 9, (int) most, 0), 1);
            Check.due("w is 1 less", x.chance(seed, 1, 9, (int) most - 1, 0), 0);
        }
    }

    private static void errorsAreAdded() {
        // What the line's versines are does not matter, as the slew takes them away again.
        RailOffsets x = Scene.one(1, 3, 99);
        Check.due("three", x.errors(0, 9), 5);
        x.set(0, 3, 4);
        x.set(0, 1, -99);
        Check.due("three", x.errors(MIN, 9), 33);
    }

    private static void chance(RailOffsets x, int seed, int m, int w, int above, int below) {
        String call = "chance(" + seed + ", " + m + ", 9, " + w + ", ";
        Check.due(call + "0)", x.chance(seed, m, 9, w, 0), above);
        Check.due(call + "1)", x.chance(seed, m, 9, w, 1), below);
    }

    private static void seedsUpToTwenty() {
        // Seeds 0 .. 19 err at the first station by 4, 4, 9, 2 .. without sign, as errors() tells one by one.
        RailOffsets x = Scene.one(0, 1, 0);
        int most = 0;
        int below = 0;
        for (int seed = 0; seed < 20; seed++) {
            int e = (int) x.errors(seed, 9);
            most = Math.max(most, e);
            below += e <= 8 ? 1 : 0;
        }
        Check.due("some are 9", most, 9);
        chance(x, 0, 1, 4, 1, 1);
        chance(x, 0, 1, 3, 0, 1);
        chance(x, 0, 20, 9, 1, 1);
        int common = below % 20 == 0 ? 20 : below % 10 == 0 ? 10 : below % 5 == 0 ? 5 : below % 4 == 0 ? 4
            : below % 2 == 0 ? 2 : 1;
        chance(x, 0, 20, 8, below / common, 20 / common);
        Check.due("none of them", x.chance(0, 0, 9, 9, 0), -2);
        Check.due("twenty-one of them", x.chance(0, 21, 9, 9, 0), -2);
    }

    private static void seedsWrapAround() {
        // From MAX - 2 on they err by 5, 5, -8, -7, -7, -1, -1, -1, 0, 6.
        RailOffsets x = Scene.one(0, 1, 0);
        chance(x, MAX, 1, 7, 0, 1);
        chance(x, MAX, 2, 7, 1, 2);
        chance(x, MAX, 2, 8, 1, 1);
        chance(x, MAX, 2, 6, 0, 1);
        chance(x, MAX - 2, 10, 5, 3, 5);
        chance(x, MAX - 2, 9, 0, 1, 9);
        chance(x, MAX - 2, 9, 1, 4, 9);
        chance(x, -1, 2, 4, 1, 2);
    }

    private static void wOrLess() {
        RailOffsets x = Scene.one(0, 2, 0);
        chance(x, MIN, 1, 21, 1, 1);
        chance(x, MIN, 1, 20, 0, 1);
        chance(x, MIN, 1, MAX, 1, 1);
        chance(x, MIN, 1, 0, 0, 1);
        Check.due("by no error 0 is enough", x.chance(MIN, 20, 0, 0, 0), 1);
    }

    // ---- told

    private static void told() {
        Check.holds("TOLD: (8 at most)", EdgesOfTermsThreeTest::eightAtMost);
        Check.holds("TOLD: numbers as they are", EdgesOfTermsThreeTest::numbersAsTheyAre);
        Check.holds("TOLD: the first that is otherwise (from 0)", EdgesOfTermsThreeTest::firstOtherwise);
        Check.holds("TOLD: also one whose STATION isn't there", EdgesOfTermsThreeTest::stationIsNotThere);
        Check.holds("TOLD: NONE (also of a row that tells none)", EdgesOfTermsThreeTest::toldAllOrNone);
        Check.holds("TOLD: KINDS (bits) of a PIECE by which all are so", EdgesOfTermsThreeTest::kindsTold);
    }

    private static void eightAtMost() {
        RailOffsets x = Scene.one(1, 10, 3);
        Check.ints(x, 0, 3, 3, 3, 3, 3, 3, 3, 4);
        Check.due("eight", x.tells(0, 1, -1), 7);
        Check.due("eight", x.tells(0, 1, 0), 0);
        Check.ints(x, 0, 3, 3, 3, 3, 3, 3, 3, 3);
        Check.due("eight", x.tells(0, 1, -1), -1);
        Check.due("eight", x.tells(0, 1, 0), 2);
        Check.ints(x, 0, 3, 3, 3, 3, 3, 3, 3, 3, 3);
        Check.due("nine", x.tells(0, 1, -1), -2);
        Check.due("nine", x.tells(0, 1, 0), -2);
    }

    private static void numbersAsTheyAre() {
        RailOffsets x = Scene.one(1, 2, 7);
        for (int v : new int[] {65543, -65529, 6, 8, -7, MIN, MAX}) {
            Check.ints(x, 0, v);
            Check.due("the int " + v, x.tells(0, 1, -1), 0);
        }
        for (int v : new int[] {65543, -65529, 7}) {
            Check.shorts(x, 0, v);
            Check.due("the short " + v, x.tells(0, 1, -1), -1);
        }
    }

    private static void firstOtherwise() {
        RailOffsets x = Scene.one(2, 4, 8);
        Check.ints(x, 0, 2, 4, 6, 8);
        Check.due("none", x.tells(0, 1, -1), -1);
        for (int i = 3; i >= 0; i--) {
            x.put(0, i, 9);
            Check.due("from " + i + " on", x.tells(0, 1, -1), i);
        }
        Check.ints(x, 0, 6, 8);
        Check.due("from station 3 on", x.tells(0, 3, -1), -1);
        Check.due("from station 2 on", x.tells(0, 2, -1), 0);
    }

    private static void stationIsNotThere() {
        RailOffsets x = Scene.one(0, 2, 0);
        Check.ints(x, 0, 0, 0);
        Check.due("both are there", x.tells(0, 1, -1), -1);
        Check.due("one is not", x.tells(0, 2, -1), 1);
        Check.due("none is", x.tells(0, 3, -1), 0);
        Check.due("none is", x.tells(0, 200, -1), 0);
        Check.due("by no kind", x.tells(0, 2, 0), 0);
        Check.due("by the kinds of no versine: all of BEND 0", x.tells(0, 1, 0), 63);
    }

    private static void toldAllOrNone() {
        RailOffsets x = new RailOffsets();
        Check.ints(x, 0);
        Check.shorts(x, 1);
        Check.due("no line", x.tells(0, 1, -1), -1);
        Check.due("no line", x.tells(1, 200, -1), -1);
        x.piece(1, 2, 7, 0);
        Check.due("a line", x.tells(0, 1, -1), -1);
        Check.due("behind it", x.tells(1, 3, -1), -1);
        Check.due("by a piece all kinds", x.tells(0, 1, 0), 63);
    }

    private static void kindsTold() {
        // By BEND 12 of two stations: straight, circle, ease, reverse, sharp, flat.
        int[][] rows = {{0, 0}, {12, 12}, {6, 12}, {-12, -12}, {3, 12}, {6, 6}};
        for (int kind = 0; kind < 6; kind++) {
            RailOffsets x = Scene.one(1, 2, 12);
            Check.ints(x, 0, rows[kind]);
            Check.due("kind " + kind, x.tells(0, 1, 0), 1 << kind);
            Check.due("its kind stays", x.of(0, 0), 1);
        }
        RailOffsets y = Scene.one(5, 1, 12);
        Check.ints(y, 0, 12);
        Check.due("of one station: circle, ease, sharp", y.tells(0, 1, 0), 2 + 4 + 16);
        Check.ints(y, 0, 6);
        Check.due("flat", y.tells(0, 1, 0), 32);
        Check.ints(y, 0, 5);
        Check.due("none", y.tells(0, 1, 0), 0);
        y.piece(2, 2, 0, 0);
        Check.ints(y, 0, 6, 0);
        Check.due("the ease behind it tells: circle, ease, sharp", y.tells(0, 2, 0), 2 + 4 + 16);
        Check.ints(y, 0, 3, 0);
        Check.due("the ease behind it tells: flat", y.tells(0, 2, 0), 32);
    }

    // ---- tokens

    private static void tokens() {
        Check.holds("THE TAPE (60 bytes at most)", EdgesOfTermsThreeTest::sixtyBytes);
        Check.holds("WORDS (as many letters a .. z as stand there)", EdgesOfTermsThreeTest::letters);
        Check.holds("as many digits as stand there: 0 .. 9", EdgesOfTermsThreeTest::digits);
        Check.holds("more than 3 are too long", EdgesOfTermsThreeTest::threeDigits);
        Check.holds("perhaps - right ahead", EdgesOfTermsThreeTest::minusAhead);
        Check.holds("of a - without a digit, too", EdgesOfTermsThreeTest::minusWithoutDigit);
        Check.holds("In doubt: a - right behind digits begins a NUMBER", EdgesOfTermsThreeTest::minusBehindDigits);
        Check.holds("blanks (32, 10) may stand between", EdgesOfTermsThreeTest::blanks);
        Check.holds("also of a byte that begins none", EdgesOfTermsThreeTest::bytesThatBeginNone);
    }

    /** The text has its FAULT there; the tape is empty then and nothing is done. */
    private static void fault(String text, int place) {
        RailOffsets x = Scene.one(1, 1, 1);
        Check.due("text '" + text + "'", Check.told(x, text), -100 - place);
        Check.due("the tape", x.count(2), 0);
        Check.due("the pieces", x.count(0), 1);
        Check.due("its bend", x.of(0, 2), 1);
        Check.due("the speed", x.rule(5, 0), 60);
    }

    /** The text is done, as many clauses of it as are told, on a line of one piece. */
    private static RailOffsets good(String text, int done) {
        RailOffsets x = Scene.one(1, 1, 1);
        Check.due("text '" + text + "'", Check.told(x, text), done);
        Check.due("the tape", x.count(2), 0);
        return x;
    }

    private static void sixtyBytes() {
        String text = "piece 0 1 0 0;piece 0 1 0 0;piece 0 1 0 0;piece 0 1 0 0;drop";
        Check.due("size", text.length(), 60);
        RailOffsets x = good(text, 5);
        Check.due("pieces", x.count(0), 4);
        Check.feed(x, text);
        Check.due("one more", x.feed(1, 32, 0, 0, 0, 0), -4);
        Check.due("it is as it was", x.count(2), 60);
        Check.due("it is done", x.text(), 5);
        x.drop();
        x.drop();
        x.drop();
        Check.feed(x, text.substring(0, 59));
        Check.due("two more", x.feed(2, 112, 112, 0, 0, 0), -4);
        Check.due("one more", x.feed(1, 112, 0, 0, 0, 0), 60);
        Check.due("it is done", x.text(), 5);
    }

    private static void letters() {
        good("drop", 1);
        fault("dropa", 0);
        fault("dropz", 0);
        fault("drop`", 4);
        fault("drop{", 4);
        fault("dropA", 4);
        fault("dropZ", 4);
        fault("drop@", 4);
        fault("drop_", 4);
        fault("Drop", 0);
        fault("a", 0);
        fault("z", 0);
        fault("dr op", 0);
        fault("dropdrop", 0);
        fault("speed1 drop", 7);
    }

    private static void digits() {
        Check.due("0", good("speed 0", 1).rule(5, 1), 0);
        Check.due("9", good("speed 9", 1).rule(5, 1), 9);
        Check.due("190", good("speed 190", 1).rule(5, 1), 190);
        Check.due("007", good("speed 007", 1).rule(5, 1), 7);
        fault("speed /", 6);
        fault("speed :", 6);
        fault("speed 1/", 7);
        fault("speed 1:", 7);
        fault("speed 1x", 7);
        fault("speed 1 2", 8);
    }

    private static void threeDigits() {
        Check.due("200", good("speed 200", 1).rule(5, 1), 200);
        good("speed 999", 0);
        fault("speed 1000", 6);
        fault("speed 0000", 6);
        fault("speed 0001", 6);
        fault("speed 00000000000000000000000000000000000000000000000000001", 6);
        fault("speed 4294967296", 6);
        fault("speed 1 1000", 8);
        fault("1000", 0);
    }

    private static void minusAhead() {
        Check.due("-99", good("bend 0 -99", 1).of(0, 2), -99);
        Check.due("-099", good("bend 0 -099", 1).of(0, 2), -99);
        Check.due("-0", good("bend 0 -0", 1).of(0, 2), 0);
        Check.due("a piece of -0", good("bend -0 5", 1).of(0, 2), 5);
        good("bend 0 -999", 0);
        fault("bend 0 -0099", 7);
        fault("bend 0 -1000", 7);
        fault("bend 0 - 9", 7);
        fault("bend 0 --9", 7);
        fault("bend 0 +9", 7);
    }

    private static void minusWithoutDigit() {
        fault("-", 0);
        fault("speed -", 6);
        fault("speed - 1", 6);
        fault("speed -\n1", 6);
        fault("speed -x", 6);
        fault("speed -;", 6);
        fault("speed 1-", 7);
        fault("drop -", 5);
        fault("drop-", 4);
    }

    private static void minusBehindDigits() {
        Check.due("0 and -7", good("bend0-7", 1).of(0, 2), -7);
        RailOffsets x = good("piece1 1-1 0", 1);
        Check.due("a bend of -1", x.of(1, 2), -1);
        fault("speed 1-2", 7);
        fault("bend 0-1-2", 8);
        fault("bend 0-1-", 8);
        good("cant 0-1", 0);
    }

    private static void blanks() {
        good(" drop", 1);
        good("\ndrop", 1);
        good("drop ", 1);
        good("drop\n", 1);
        good(" \n \n drop \n ; \n speed \n 9 \n ", 2);
        good("drop;speed9", 2);
        good("piece 0\n1\n0\n0", 1);
        for (char c : new char[] {0, 9, 11, 12, 13, 31, 33, 127, 160, 255}) {
            fault("drop" + c, 4);
            fault(c + "drop", 0);
            fault("speed" + c + "9", 5);
        }
    }

    private static void bytesThatBeginNone() {
        for (int b = 0; b < 256; b++) {
            boolean letter = b >= 'a' && b <= 'z';
            boolean known = letter || b >= '0' && b <= '9' || b == '-' || b == ';' || b == 32 || b == 10;
            RailOffsets x = Scene.one(1, 1, 1);
            Check.feed(x, "drop ");
            x.feed(1, b, 0, 0, 0, 0);
            // Blanks may stand there, a ; is to be followed, all else can't stand there.
            long want = b == 32 || b == 10 ? 1 : b == ';' ? -106 : -105;
            Check.due("byte " + b, x.text(), want);
            if (!known) {
                fault("speed 1;" + (char) b, 8);
            }
        }
    }

    // ---- clauses

    private static void clauses() {
        Check.holds("TEXT: CLAUSES, one or more", EdgesOfTermsThreeTest::oneOrMore);
        Check.holds("TEXT: with ; between", EdgesOfTermsThreeTest::signsBetween);
        Check.holds("CLAUSE: a WORD and just as many NUMBERS", EdgesOfTermsThreeTest::justAsMany);
        Check.holds("FAULT: (the text's size, if it ends too early)", EdgesOfTermsThreeTest::endsTooEarly);
        Check.holds("FAULT: a WORD that is none of these", EdgesOfTermsThreeTest::wordsThatAreNone);
        Check.holds("FAULT: (of a NUMBER its first byte, the -, if there is one)", EdgesOfTermsThreeTest::firstByteOfANumber);
        Check.holds("FAULT: of the first TOKEN that can't stand there", EdgesOfTermsThreeTest::firstFaultCounts);
    }

    private static void oneOrMore() {
        fault("", 0);
        good("drop", 1);
        good("speed 1;drop", 2);
        RailOffsets x = new RailOffsets();
        for (int i = 0; i < 10; i++) {
            x.piece(0, 1, 0, 0);
        }
        Check.due("twelve", Check.told(x, "drop;drop;drop;drop;drop;drop;drop;drop;drop;drop;drop;drop"), 10);
        Check.due("pieces", x.count(0), 0);
    }

    private static void signsBetween() {
        fault(";", 0);
        fault(";drop", 0);
        fault("drop;", 5);
        fault("drop;;drop", 5);
        fault("drop drop", 5);
        fault("speed 1 drop", 8);
        fault("speed;1", 5);
        fault("bend 0;1", 6);
        fault("drop,drop", 4);
        fault("drop:drop", 4);
        fault("drop<drop", 4);
    }

    private static void justAsMany() {
        String[] words = {"piece", "bend", "cant", "speed", "drop"};
        int[] asked = {4, 2, 2, 1, 0};
        for (int w = 0; w < 5; w++) {
            String text = words[w];
            for (int n = 0; n < asked[w]; n++) {
                fault(text, text.length());
                fault(text + ";drop", text.length());
                fault(text + " drop", text.length() + 1);
                text += " 1";
            }
            good(text, words[w].equals("bend") || words[w].equals("cant") ? 0 : 1);
            fault(text + " 1", text.length() + 1);
            fault(text + " x", text.length() + 1);
        }
    }

    private static void endsTooEarly() {
        fault("", 0);
        fault(" ", 1);
        fault(" \n ", 3);
        fault("speed", 5);
        fault("speed ", 6);
        fault("speed\n\n", 7);
        fault("drop;", 5);
        fault("drop; ", 6);
        fault("piece 0 1 0", 11);
        fault("piece 0 1 0 ", 12);
        fault("drop;drop;drop;drop;drop;drop;drop;drop;drop;drop;drop;drop;", 60);
        fault("                                                            ", 60);
    }

    private static void wordsThatAreNone() {
        for (String word : new String[] {"p", "piec", "pieces", "ben", "bends", "can", "cants", "spee", "speeds", "dro",
            "drops", "dropp", "text", "load", "set", "rule", "image", "back", "pdrop", "tnac"}) {
            fault(word, 0);
            fault("drop;" + word + " 1", 5);
        }
        fault("abcdefghijklmnopqrstuvwxyzabcdefghijklmnopqrstuvwxyzabcdefgh", 0);
    }

    private static void firstByteOfANumber() {
        fault("drop 5", 5);
        fault("drop -5", 5);
        fault("drop  -5", 6);
        fault("drop-5", 4);
        fault("-5", 0);
        fault("speed  1234", 7);
        fault("speed  -1234", 7);
        fault("speed-1234", 5);
    }

    private static void firstFaultCounts() {
        fault("drop drop -", 5);
        fault("x 1000", 0);
        fault("speed 1000 x", 6);
        fault("speed ! 1000", 6);
        fault("drop;drop 1;x;1000", 10);
        fault("bend 0 5;cant 0 6;speed 7;xend 0 8", 26);
    }

    // ---- texts that are done

    private static void textsThatAreDone() {
        Check.holds("Without FAULT they are done, one behind the other", EdgesOfTermsThreeTest::oneBehindTheOther);
        Check.holds("those that would be refused aren't", EdgesOfTermsThreeTest::refusedOnesAreNot);
        Check.holds("In doubt: a TEXT tells how many were done", EdgesOfTermsThreeTest::howManyWereDone);
        Check.holds("By a FAULT none is done", EdgesOfTermsThreeTest::noneByAFault);
        Check.holds("THE TAPE is empty then: nothing of it is read again", EdgesOfTermsThreeTest::nothingIsReadAgain);
    }

    private static void oneBehindTheOther() {
        RailOffsets x = new RailOffsets();
        Check.due("drop comes too early", Check.told(x, "drop;piece 1 2 3 4;bend 0 5;cant 0 6;bend 0 7"), 4);
        Check.due("bend", x.of(0, 2), 7);
        Check.due("cant", x.of(0, 3), 6);
        Check.due("the bend has no piece any more", Check.told(x, "speed 9;drop;bend 0 1;speed 8"), 3);
        Check.due("speed", x.rule(5, 60), 8);
    }

    private static void refusedOnesAreNot() {
        String[] refused = {"piece 6 1 0 0", "piece -1 1 0 0", "piece 0 0 0 0", "piece 0 21 0 0", "piece 0 1 -100 0",
            "piece 0 1 100 0", "piece 0 1 0 -1", "piece 0 1 0 161", "bend 1 0", "bend -1 0", "bend 0 100", "bend 0 -100",
            "cant 1 0", "cant -1 0", "cant 0 161", "cant 0 -1", "speed 201", "speed -1"};
        for (String text : refused) {
            RailOffsets x = good(text, 0);
            Check.due("pieces", x.count(0), 1);
            Check.due("bend", x.of(0, 2), 1);
            Check.due("cant", x.of(0, 3), 0);
            Check.due("speed", x.rule(5, 0), 60);
        }
        String[] taken = {"piece 5 20 99 160", "piece 0 1 -99 0", "bend 0 99", "bend 0 -99", "cant 0 160", "cant 0 0",
            "speed 200", "speed 0"};
        for (String text : taken) {
            good(text, 1);
        }
        RailOffsets x = new RailOffsets();
        Check.due("drop of none", Check.told(x, "drop"), 0);
        for (int i = 0; i < 10; i++) {
            x.piece(0, 1, 0, 0);
        }
        Check.due("an eleventh", Check.told(x, "piece 0 1 0 0"), 0);
    }

    private static void howManyWereDone() {
        good("speed 201;speed 200;speed 999;speed 1", 2);
        good("speed 201", 0);
        good("drop;drop;drop", 1);
        // What it was may be below 0, and is no refusal.
        RailOffsets x = Scene.one(1, 1, -99);
        Check.due("it was -99, then -2", Check.told(x, "bend 0 -2;bend 0 -1;bend 0 0"), 3);
    }

    private static void noneByAFault() {
        fault("drop;speed 1;bend 0 9;", 22);
        fault("speed 1;drop;x", 13);
        // The next text begins anew.
        RailOffsets x = Scene.one(1, 1, 1);
        Check.due("too early", Check.told(x, "speed"), -105);
        Check.due("it does not go on", Check.told(x, " 9"), -101);
        Check.due("nor is it done later", Check.told(x, "drop"), 1);
        Check.due("speed", x.rule(5, 0), 60);
    }

    private static void nothingIsReadAgain() {
        RailOffsets x = Scene.one(1, 1, 1);
        x.piece(1, 1, 2, 0);
        Check.due("two clauses", Check.told(x, "speed 123;drop"), 2);
        Check.due("one clause", Check.told(x, "speed 1"), 1);
        Check.due("its digits alone", x.rule(5, 60), 1);
        Check.due("the second is not done again", x.count(0), 1);
        Check.due("a longer word", Check.told(x, "drops"), -100);
        Check.due("its letters alone", Check.told(x, "drop"), 1);
        Check.due("more behind it", Check.told(x, "drop;drop"), 0);
        Check.due("no sign behind it", Check.told(x, "drop"), 0);
        Check.due("a number", Check.told(x, "bend 0 7"), 0);
        Check.due("no number behind it", Check.told(x, "bend 0"), -106);
        Check.due("no number behind it", Check.told(x, "bend "), -105);
        Check.due("its fault is a word", Check.told(x, "drop drop"), -105);
        Check.due("which is no other one", Check.told(x, "x"), -100);
        Check.due("its fault is a number", Check.told(x, "speed 1 2"), -108);
        Check.due("which is no other one", Check.told(x, "speed -"), -106);
    }

    // ---- images and sheets

    private static void images() {
        Check.holds("AN IMAGE keeps PIECES, RULES", EdgesOfTermsThreeTest::imageKeeps);
        Check.holds("An IMAGE does not keep SHEETS, nor THE TAPE", EdgesOfTermsThreeTest::imageKeepsNotMore);
    }

    private static void imageKeeps() {
        int[] most = {1000000, 160, 160, 160, 99, 200, 1000000, 10000};
        RailOffsets x = new RailOffsets();
        for (int i = 0; i < 10; i++) {
            x.piece(i % 6, 20 - i, i - 99, 160 - i);
        }
        for (int r = 0; r < 8; r++) {
            x.rule(r, most[r]);
        }
        Check.due("image", x.image(), 10);
        for (int i = 9; i >= 0; i--) {
            x.set(i, 3, 0);
            x.set(i, 0, 1);
            x.set(i, 1, 0);
            x.set(i, 2, 0);
            x.drop();
        }
        for (int r = 0; r < 8; r++) {
            x.rule(r, 1);
        }
        Check.due("back", x.back(), 10);
        for (int i = 0; i < 10; i++) {
            int[] want = {i % 6, 20 - i, i - 99, 160 - i};
            for (int what = 0; what < 4; what++) {
                Check.due("of(" + i + ", " + what + ")", x.of(i, what), want[what]);
            }
        }
        for (int r = 0; r < 8; r++) {
            Check.due("rule " + r, x.rule(r, 1), most[r]);
        }
    }

    private static void imageKeepsNotMore() {
        RailOffsets x = Scene.one(0, 3, 0);
        Check.ints(x, 0, 5);
        Check.feed(x, "drop");
        x.image();
        x.put(0, 0, 6);
        x.sheet(1, 1, 2);
        Check.feed(x, ";drop");
        x.back();
        Check.due("what was put stands", x.slew(0, 1), 6);
        Check.due("the sheet stands", x.put(1, 1, 0), 1);
        Check.due("the tape stands", x.count(2), 9);
        x.sheet(0, -1, 0);
        x.text();
        x.back();
        Check.due("it is missing", x.slew(0, 1), NO);
        Check.due("the tape is empty", x.count(2), 0);
        Check.due("the piece is there", x.count(0), 1);
    }

    private static void sheets() {
        Check.holds("SHEETS 0 .. 3", EdgesOfTermsThreeTest::fourSheets);
        Check.holds("or missing (as all are at first)", EdgesOfTermsThreeTest::missingAtFirst);
        Check.holds("of sort 0 shorts, 1 ints", EdgesOfTermsThreeTest::shortsAndInts);
        Check.holds("In doubt: a film goes on with 0 behind the last STATION", EdgesOfTermsThreeTest::filmGoesOn);
    }

    private static void fourSheets() {
        RailOffsets x = Scene.one(0, 1, 0);
        for (int sheet = 0; sheet < 4; sheet++) {
            Check.ints(x, sheet, 10 + sheet);
        }
        for (int sheet = 0; sheet < 4; sheet++) {
            Check.due("each has its own", x.slew(sheet, 1), 10 + sheet);
        }
        for (int sheet : new int[] {-1, 4, MIN, MAX}) {
            Check.due("sheet " + sheet, x.sheet(sheet, 1, 1), -2);
            Check.due("sheet " + sheet, x.put(sheet, 0, 0), -2);
            Check.due("sheet " + sheet, x.slew(sheet, 0), NO);
        }
    }

    private static void missingAtFirst() {
        RailOffsets x = Scene.one(0, 1, 0);
        for (int sheet = 0; sheet < 4; sheet++) {
            Check.due("put", x.put(sheet, 0, 0), -11);
            Check.due("slew", x.slew(sheet, 0), NO);
            Check.due("slews", x.slews(sheet, 0), NO);
            Check.due("by", x.by(sheet, 0), -11);
            Check.due("tells", x.tells(sheet, 1, -1), -11);
            Check.due("load", x.load(sheet, 0, 0, 1), -11);
            Check.due("load", x.load(sheet, 1, 0, 1), -11);
            Check.due("copy", x.copy(sheet, 0, sheet, 0, 0), -11);
        }
    }

    private static void shortsAndInts() {
        RailOffsets x = Scene.one(0, 1, 0);
        x.sheet(0, 0, 4);
        x.sheet(1, 1, 4);
        Check.due("shorts", x.load(0, 0, 0, 1), 0);
        Check.due("not ints", x.load(0, 1, 0, 1), -13);
        Check.due("ints", x.load(1, 1, 0, 1), 0);
        Check.due("not shorts", x.load(1, 0, 0, 1), -13);
        x.put(0, 0, 65536);
        Check.due("a short", x.slew(0, 1), 0);
        x.put(1, 0, 65536);
        Check.due("an int", x.slew(1, 1), 999);
    }

    private static void filmGoesOn() {
        RailOffsets x = Scene.one(1, 3, 7);
        Check.due("film", x.film(0, 2, 4), 4);
        x.set(0, 3, 0);
        x.set(0, 0, 5);
        slews(x, 0, 0, 7, 21, 35, 49, 63);
        Check.due("all behind", x.film(0, 6, 3), 3);
        slews(x, 0, 0, 0, 0, 0, 0, 0);
    }
}
